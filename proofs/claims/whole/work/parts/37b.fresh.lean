/-! the fresh world, laid as the whole one -/
abbrev lanF : Nat → Int32 := upd (upd (upd (upd z0 0 (-4)) 1 (-4)) 2 (-4)) 3 (-4)
abbrev dyF : Nat → Int32 := fun j => if j = 8 then -4 else 0
abbrev shF : Nat → Int32 := fun j => if j = 2 then -1 else 0
def sg0 : Mem := (fun k => if k = 74 then lanF else if k = 5 then dyF else if k = 12 then dyF else if k = 19 then dyF else if k = 31 then dyF else if k = 42 then dyF else if k = 53 then shF else if k = 55 then shF else if k = 57 then shF else if k = 59 then shF else z0, fun _ _ => 0)
def adM (A M : Nat → Nat) : Nat → Nat := fun k => if k < 64 then (if k < 3 then A k else if k < 5 then A (k + 7) else if k < 12 then A (k - 2) else A k) else M (k - 64)

abbrev mL (c6 : Nat → ClassId) (M : Nat → Nat) : va_W := [(M 0, .inr (6, [.ref (M 1), .ref (M 2), .ref (M 3), .ref (M 4), .int 0, .int 0, .int 0, .ref (M 5), .int 0, .ref (M 6), .int 0, .int 0, .int 0, .int 0, .int 0, .int 0, .int 0, .int 0, .int 0, .int 0, .ref (M 7), .long 0, .long 0, .long 0, .ref (M 8), .ref (M 9), .ref (M 10), .ref (M 11), .ref (M 12), .int 0, .ref (M 13)])), (M 1, .inl (c6 1, 147, .inl z0)), (M 2, .inl (c6 1, 49, .inl z0)), (M 3, .inl (c6 2, 2, .inl z0)), (M 4, .inl (c6 1, 49, .inl z0)), (M 5, .inl (c6 1, 6, .inl z0)), (M 6, .inl (c6 1, 160, .inl z0)), (M 7, .inl (c6 1, 6, .inl z0)), (M 8, .inl (c6 1, 21, .inl z0)), (M 9, .inl (c6 1, 126, .inl z0)), (M 10, .inl (c6 1, 4, .inl lanF)), (M 11, .inl (c6 1, 4, .inl z0)), (M 12, .inl (c6 1, 160, .inl z0)), (M 13, .inl (c6 1, 49, .inl z0))]
def plc : List Nat := [0, 1, 2, 10, 11, 3, 4, 5, 6, 7, 8, 9, 12, 13, 14, 15, 16, 17, 18, 19, 20, 21, 22, 23, 24, 25, 26, 27, 28, 29, 30, 31, 32, 33, 34, 35, 36, 37, 38, 39, 40, 41, 42, 43, 44, 45, 46, 47, 48, 49, 50, 51, 52, 53, 54, 55, 56, 57, 58, 59, 60, 61, 62, 63, 64, 65, 66, 67, 68, 69, 70, 71, 72, 73, 74, 75, 76, 77]
theorem up2_rl {a b : Nat} : up2 a b = rl [a, b] := by
  funext i
  match i with
  | 0 => rfl
  | 1 => rfl
  | i + 2 => simp [rl, va_up]
theorem up4_rl {a b c d : Nat} : up4 a b c d = rl [a, b, c, d] := by
  funext i
  match i with
  | 0 => rfl
  | 1 => rfl
  | 2 => rfl
  | 3 => rfl
  | i + 4 => simp [rl, va_up]
theorem rl2 {r : Nat → Nat} : (fun i => if i < 2 then some (r i) else none) = rl [r 0, r 1] := by
  funext i
  match i with
  | 0 => rfl
  | 1 => rfl
  | i + 2 => simp [rl]
theorem sR4 {E : EE} {c : ClassId} {b k : Nat} : sR E c 4 b k = fun _ _ => .inl (c, 4, rfs [eA E (b + k * 0), eA E (b + k * 1), eA E (b + k * 2), eA E (b + k * 3)]) := by
  unfold sR
  rw [rl4 (r := fun i => eA E (b + k * i))]
theorem sR2 {E : EE} {c : ClassId} {b k : Nat} : sR E c 2 b k = fun _ _ => .inl (c, 2, rfs [eA E (b + k * 0), eA E (b + k * 1)]) := by
  unfold sR
  rw [rl2 (r := fun i => eA E (b + k * i))]
theorem fm_of {α β : Type} {f : α → Option β} : ∀ {l : List α} {r : List β}, l.map f = r.map some → l.filterMap f = r
  | [], [], _ => rfl
  | [], b :: r, h => by simp at h
  | a :: l, [], h => by simp at h
  | a :: l, b :: r, h => by
    simp only [List.map_cons, List.cons.injEq] at h
    rw [List.filterMap_cons, h.1, fm_of h.2]
set_option maxHeartbeats 4000000 in
set_option maxRecDepth 100000 in
theorem wd0 {D : va_G} {A M : Nat → Nat} {c6 : Nat → ClassId} {x6 : Nat → Nat} : plc.map (fun i => (xL c6 A ++ mL c6 M)[i]?) = (Wd (D, adM A M, c6, x6) sg0).map some := by
  unfold xL
  rw [up2_rl, up4_rl]
  unfold Wd shp
  simp only [sR4, sR2]
  rfl
theorem shp_some {E : EE} {k : Nat} (h : k < 78) : ∃ f, (shp E)[k]? = some f := by
  rw [← shp_len E] at h
  exact ⟨_, List.getElem?_eq_getElem h⟩
theorem plc_nd : va_nd plc = true := by decide +kernel
theorem toW {D : va_G} {c6 : Nat → ClassId} {x6 : Nat → Nat} {n0 : Nat} {p : Program} {l : Launch} {e : Env} {R : Room} {s : State} {m : MethodId} {args : Array Value} {below : List Frame} {meth : Method} {c : Code} {Qf : State → Prop} {nL k n pc : Nat} {lv : List (Nat × Value)} {stk : List Value} {w : va_W} {own : String} {ws : List Cond} {cc : ByteArray} {ret : Option FieldType} {A : Nat → Nat}
    (C : CxN D c6 n0 p s m args meth c own ws cc nL ret) (hG : Glob (E0 D c6 x6 n0) n0 s s.heap) (M : Nat → Nat) (hw : w = xL c6 A ++ mL c6 M)
    (kk : CxW (D, adM A M, c6, x6) n0 p s m args meth c own ws cc nL ret → JW (D, adM A M, c6, x6) n0 p l e R s m args below meth c Qf nL k n pc lv stk sg0) : JN D n0 p l e R s m args below meth c Qf nL k n pc lv stk w := by
  obtain ⟨hx, hb, hr, hml, hown, hts, hlocks, hK, hn0⟩ := C
  intro H locs ls hP hD hS hl
  rw [hw] at hP hD
  have hP1 := hP.sub plc (fm_of (wd0 (D := D) (A := A) (M := M) (c6 := c6) (x6 := x6)))
  have hD1 := hD.sub plc plc_nd (wd0 (D := D) (A := A) (M := M) (c6 := c6) (x6 := x6))
  refine kk ⟨hx, hb, hr, hml, hown, hts, hlocks, hG, fun i j hi hj hij => ?_, fun i hi => ?_, hn0⟩ H locs ls hP1 hS hl
  · obtain ⟨f, hf⟩ := shp_some (E := (D, adM A M, c6, x6)) hi
    obtain ⟨g, hg⟩ := shp_some (E := (D, adM A M, c6, x6)) hj
    exact hD1.1 i j _ _ (Wd_get hf) (Wd_get hg) hij
  · obtain ⟨f, hf⟩ := shp_some (E := (D, adM A M, c6, x6)) hi
    exact hD1.2 i _ (Wd_get hf)
theorem start_inv : wp_X6_firstDraft sg0 (fun τ => wp_X6_keepDraft τ Inv) := by
  refine m_draft (fun τ hM hf => ?_)
  have hf6 : fits6 S0 := fun i hi => absurd hi (Nat.not_lt_zero i)
  refine m_keepD hM pi0 hf6 (fun υ u1 u2 u3 u4 u5 u6 => ?_)
  have a0 : ∀ k, 31 ≤ k → finA S0 k = 0 := fun k hk => by rw [finA_o (by omega)]; rfl
  have a24 : finA S0 24 = 0 := by rw [finA_o (by omega)]; rfl
  have ws : WS (finA S0) := ⟨by rw [a0 36 (by omega)]; omega, fun i hi => by rw [a0 36 (by omega)] at hi; omega⟩
  have g : ∀ a b, a ≠ 65 → a ≠ 67 → a ≠ 68 → ¬ (a = 64 ∧ 4 ≤ b ∧ b ≤ 8) → υ.1 a b = sg0.1 a b := fun a b q1 q2 q3 q4 => by rw [u6 a b q1 q2]; exact hf a b q3 q4
  refine ⟨finA S0, fun _ _ => 0, fun _ => 0, 0, fun _ => 0, fun _ => 0, fun _ => 0, fun _ _ => 0, 0, 0, ⟨⟨u1.1, ?_, fun h w hh => by rw [a24] at hh; omega, fun i hi => by rw [a24] at hi; omega, fun k k1 k2 => ?_⟩, ⟨ws, ?_, fun i hi => by rw [a0 36 (by omega)] at hi; omega⟩, by rw [a0 33 (by omega)]; omega, fun k hk => ⟨Or.inl rfl, ?_, fun q => absurd rfl q⟩, ⟨by omega, ?_, fun i hi => absurd hi (Nat.not_lt_zero i)⟩, fun k hk => ⟨fun i hi => ?_, fun _ => ?_, fun q => absurd rfl q⟩, ?_, ?_⟩, ⟨u1, ⟨ws, ?_, fun i hi => by rw [a0 36 (by omega)] at hi; omega⟩, fun k hk => ⟨?_, fun q => absurd rfl q⟩, ⟨by omega, ?_, fun i hi => absurd hi (Nat.not_lt_zero i)⟩, fun k hk => ⟨fun i hi => ?_, fun _ => ?_, fun q => absurd rfl q⟩, ?_, ?_⟩⟩
  · rw [a24, g 12 2 (by omega) (by omega) (by omega) (by omega)]; rfl
  · rw [a0 k k1, g 12 (k - 28) (by omega) (by omega) (by omega) (by omega)]
    rcases (show k = 31 ∨ k = 32 ∨ k = 33 ∨ k = 34 ∨ k = 35 by omega) with rfl | rfl | rfl | rfl | rfl <;> rfl
  · rw [a0 36 (by omega), g 26 2 (by omega) (by omega) (by omega) (by omega)]; rfl
  · rw [g _ 2 (by omega) (by omega) (by omega) (by omega)]
    rcases (show k = 0 ∨ k = 1 by omega) with rfl | rfl <;> rfl
  · rw [g 1 1 (by omega) (by omega) (by omega) (by omega)]; rfl
  · rw [g _ i (by omega) (by omega) (by omega) (by omega)]
    rcases (show k = 0 ∨ k = 1 ∨ k = 2 ∨ k = 3 by omega) with rfl | rfl | rfl | rfl <;> rfl
  · rw [g _ 2 (by omega) (by omega) (by omega) (by omega)]
    rcases (show k = 0 ∨ k = 1 ∨ k = 2 ∨ k = 3 by omega) with rfl | rfl | rfl | rfl <;> rfl
  · rw [g 1 4 (by omega) (by omega) (by omega) (by omega)]; rfl
  · rw [g 0 9 (by omega) (by omega) (by omega) (by omega)]; rfl
  · rw [a0 36 (by omega), u2]; rfl
  · rcases (show k = 0 ∨ k = 1 by omega) with rfl | rfl
    · exact u4
    · exact u5
  · rw [g 64 10 (by omega) (by omega) (by omega) (by omega)]; rfl
  · rw [g 76 _ (by omega) (by omega) (by omega) (by omega)]; rfl
  · rw [g 74 k (by omega) (by omega) (by omega) (by omega)]
    rcases (show k = 0 ∨ k = 1 ∨ k = 2 ∨ k = 3 by omega) with rfl | rfl | rfl | rfl <;> rfl
  · rw [g 64 15 (by omega) (by omega) (by omega) (by omega)]; rfl
  · rw [g 64 29 (by omega) (by omega) (by omega) (by omega)]; rfl
