/-! the fresh world, laid as the whole one -/
abbrev lanF : Nat → Int32 := upd (upd (upd (upd z0 0 (-4)) 1 (-4)) 2 (-4)) 3 (-4)
abbrev dyF : Nat → Int32 := fun j => if j = 8 then -4 else 0
abbrev shF : Nat → Int32 := fun j => if j = 2 then -1 else 0
def sg0 : Mem := (fun k => if k = 74 then lanF else if k = 5 then dyF else if k = 12 then dyF else if k = 19 then dyF else if k = 31 then dyF else if k = 42 then dyF else if k = 53 then shF else if k = 55 then shF else if k = 57 then shF else if k = 59 then shF else z0, fun _ _ => 0)
def adM (A M : Nat → Nat) : Nat → Nat := fun k => if k < 64 then (if k < 3 then A k else if k < 5 then A (k + 7) else if k < 12 then A (k - 2) else A k) else if k < 78 then M (k - 64) else A 64

abbrev mL (c6 : Nat → ClassId) (M : Nat → Nat) : va_W := [(M 0, .inr (6, [.ref (M 1), .ref (M 2), .ref (M 3), .ref (M 4), .int 0, .int 0, .int 0, .ref (M 5), .int 0, .ref (M 6), .int 0, .int 0, .int 0, .int 0, .int 0, .int 0, .int 0, .int 0, .int 0, .int 0, .ref (M 7), .long 0, .long 0, .long 0, .ref (M 8), .ref (M 9), .ref (M 10), .ref (M 11), .ref (M 12), .int 0, .ref (M 13)])), (M 1, .inl (c6 1, 147, .inl z0)), (M 2, .inl (c6 1, 49, .inl z0)), (M 3, .inl (c6 2, 2, .inl z0)), (M 4, .inl (c6 1, 49, .inl z0)), (M 5, .inl (c6 1, 6, .inl z0)), (M 6, .inl (c6 1, 160, .inl z0)), (M 7, .inl (c6 1, 6, .inl z0)), (M 8, .inl (c6 1, 21, .inl z0)), (M 9, .inl (c6 1, 126, .inl z0)), (M 10, .inl (c6 1, 4, .inl lanF)), (M 11, .inl (c6 1, 4, .inl z0)), (M 12, .inl (c6 1, 160, .inl z0)), (M 13, .inl (c6 1, 49, .inl z0))]
def plf (k : Nat) : Nat := if k < 3 then k else if k < 5 then k + 8 else if k < 12 then k - 2 else if k < 78 then k + 1 else 10
def plc : List Nat := (List.range 79).map plf
theorem up2_if {r : Nat → Nat} : (fun i => if i < 2 then some (r i) else none) = up2 (r 0) (r 1) := by
  funext i
  match i with
  | 0 => rfl
  | 1 => rfl
  | i + 2 => simp [va_up]
theorem up4_if {r : Nat → Nat} : (fun i => if i < 4 then some (r i) else none) = up4 (r 0) (r 1) (r 2) (r 3) := by
  funext i
  match i with
  | 0 => rfl
  | 1 => rfl
  | 2 => rfl
  | 3 => rfl
  | i + 4 => simp [va_up]
theorem sR4 {E : EE} {c : ClassId} {b k : Nat} : sR E c 4 b k = fun _ _ => .inl (c, 4, rfs [eA E (b + k * 0), eA E (b + k * 1), eA E (b + k * 2), eA E (b + k * 3)]) := by
  have e : (fun i => if i < 4 then some (eA E (b + k * i)) else none) = rl [eA E (b + k * 0), eA E (b + k * 1), eA E (b + k * 2), eA E (b + k * 3)] := rl4 (r := fun i => eA E (b + k * i))
  unfold sR
  rw [e]
theorem sR4u {E : EE} {c : ClassId} {b k : Nat} : sR E c 4 b k = fun _ _ => .inl (c, 4, .inr (.inr (.inr (.inr (up4 (eA E (b + k * 0)) (eA E (b + k * 1)) (eA E (b + k * 2)) (eA E (b + k * 3))))))) := by
  have e : (fun i => if i < 4 then some (eA E (b + k * i)) else none) = up4 (eA E (b + k * 0)) (eA E (b + k * 1)) (eA E (b + k * 2)) (eA E (b + k * 3)) := up4_if (r := fun i => eA E (b + k * i))
  unfold sR
  rw [e]
theorem sR2u {E : EE} {c : ClassId} {b k : Nat} : sR E c 2 b k = fun _ _ => .inl (c, 2, .inr (.inr (.inr (.inr (up2 (eA E (b + k * 0)) (eA E (b + k * 1))))))) := by
  have e : (fun i => if i < 2 then some (eA E (b + k * i)) else none) = up2 (eA E (b + k * 0)) (eA E (b + k * 1)) := up2_if (r := fun i => eA E (b + k * i))
  unfold sR
  rw [e]
theorem o_X {E : EE} {m : Nat → Int32} {ml : Nat → Int64} : sO E 5 spX m ml = .inr (5, [.ref (eA E (1)), .ref (eA E (12)), .ref (eA E (19)), .ref (eA E (26)), .ref (eA E (29)), .ref (eA E (52)), .ref (eA E (61)), .ref (eA E (62)), .ref (eA E (63)), .int (m 9)]) := by
  first
    | (unfold sO spX; simp only [List.mapIdx_cons, List.mapIdx_nil, sV]; rfl)
    | (simp [sO, spX, sV]; done)
    | rfl
theorem o_T {E : EE} {m : Nat → Int32} {ml : Nat → Int64} : sO E 4 spT m ml = .inr (4, [.ref (eA E (2)), .int (m 1), .ref (eA E (5)), .int (m 3), .int (m 4), .int (m 5), .int (m 6), .int (m 7), .int (m 8), .int (m 9), .ref (eA E (78)), .ref (eA E (3)), .ref (eA E (4)), .int (m 13), .int (m 14), .int (m 15), .int (m 16)]) := by
  first
    | (unfold sO spT; simp only [List.mapIdx_cons, List.mapIdx_nil, sV]; rfl)
    | (simp [sO, spT, sV]; done)
    | rfl
theorem o_D {E : EE} {d : Nat} {m : Nat → Int32} {ml : Nat → Int64} : sO E 0 (spD d) m ml = .inr (0, [.ref (eA E (d + 1)), .ref (eA E (d + 6)), .int (m 2), .int (m 3), .int (m 4), .int (m 5), .int (m 6), .int (m 7), .int (m 8), .int (m 9), .int (m 10), .int (m 11)]) := by
  first
    | (unfold sO spD; simp only [List.mapIdx_cons, List.mapIdx_nil, sV]; rfl)
    | (simp [sO, spD, sV]; done)
    | rfl
theorem o_I {E : EE} {d : Nat} {m : Nat → Int32} {ml : Nat → Int64} : sO E 1 (spI d) m ml = .inr (1, [.ref (eA E (d + 1)), .ref (eA E (d + 8)), .int (m 2)]) := by
  first
    | (unfold sO spI; simp only [List.mapIdx_cons, List.mapIdx_nil, sV]; rfl)
    | (simp [sO, spI, sV]; done)
    | rfl
theorem o_S {E : EE} {d : Nat} {m : Nat → Int32} {ml : Nat → Int64} : sO E 2 (spSh d) m ml = .inr (2, [.ref (eA E (d + 1)), .int (m 1), .int (m 2)]) := by
  first
    | (unfold sO spSh; simp only [List.mapIdx_cons, List.mapIdx_nil, sV]; rfl)
    | (simp [sO, spSh, sV]; done)
    | rfl
theorem o_G {E : EE} {d : Nat} {m : Nat → Int32} {ml : Nat → Int64} : sO E 3 (spSi d) m ml = .inr (3, [.ref (eA E (d + 1)), .ref (eA E (d + 2)), .int (m 2)]) := by
  first
    | (unfold sO spSi; simp only [List.mapIdx_cons, List.mapIdx_nil, sV]; rfl)
    | (simp [sO, spSi, sV]; done)
    | rfl
theorem o_M {E : EE} {m : Nat → Int32} {ml : Nat → Int64} : sO E 6 spM m ml = .inr (6, [.ref (eA E (65)), .ref (eA E (66)), .ref (eA E (67)), .ref (eA E (68)), .int (m 4), .int (m 5), .int (m 6), .ref (eA E (69)), .int (m 8), .ref (eA E (70)), .int (m 10), .int (m 11), .int (m 12), .int (m 13), .int (m 14), .int (m 15), .int (m 16), .int (m 17), .int (m 18), .int (m 19), .ref (eA E (71)), .long (ml 21), .long (ml 22), .long (ml 23), .ref (eA E (72)), .ref (eA E (73)), .ref (eA E (74)), .ref (eA E (75)), .ref (eA E (76)), .int (m 29), .ref (eA E (77))]) := by
  first
    | (unfold sO spM; simp only [List.mapIdx_cons, List.mapIdx_nil, sV]; rfl)
    | (simp [sO, spM, sV]; done)
    | rfl
set_option maxHeartbeats 8000000 in
set_option maxRecDepth 100000 in
theorem wd_at {D : va_G} {A M : Nat → Nat} {c6 : Nat → ClassId} {x6 : Nat → Nat} : ∀ k, k < 79 → ∃ f, (shp (D, adM A M, c6, x6))[k]? = some f ∧ (xL c6 A ++ mL c6 M)[plf k]? = some (eA (D, adM A M, c6, x6) k, f (sg0.1 k) (sg0.2 k)) := by
  intro k hk
  rcases (show k < 10 ∨ (10 ≤ k ∧ k < 20) ∨ (20 ≤ k ∧ k < 30) ∨ (30 ≤ k ∧ k < 40) ∨ (40 ≤ k ∧ k < 50) ∨ (50 ≤ k ∧ k < 60) ∨ (60 ≤ k ∧ k < 70) ∨ (70 ≤ k ∧ k < 79) by omega) with h | h | h | h | h | h | h | h
  · rcases (show k = 0 ∨ k = 1 ∨ k = 2 ∨ k = 3 ∨ k = 4 ∨ k = 5 ∨ k = 6 ∨ k = 7 ∨ k = 8 ∨ k = 9 by omega) with rfl | rfl | rfl | rfl | rfl | rfl | rfl | rfl | rfl | rfl
    · exact ⟨_, rfl, (by rw [o_X]; rfl)⟩
    · exact ⟨_, rfl, (by rw [o_T]; rfl)⟩
    · exact ⟨_, rfl, rfl⟩
    · exact ⟨_, rfl, rfl⟩
    · exact ⟨_, rfl, rfl⟩
    · exact ⟨_, rfl, (by rw [o_D]; rfl)⟩
    · exact ⟨_, rfl, (by rw [sR4]; rfl)⟩
    · exact ⟨_, rfl, rfl⟩
    · exact ⟨_, rfl, rfl⟩
    · exact ⟨_, rfl, rfl⟩
  · rcases (show k = 10 ∨ k = 11 ∨ k = 12 ∨ k = 13 ∨ k = 14 ∨ k = 15 ∨ k = 16 ∨ k = 17 ∨ k = 18 ∨ k = 19 by omega) with rfl | rfl | rfl | rfl | rfl | rfl | rfl | rfl | rfl | rfl
    · exact ⟨_, rfl, rfl⟩
    · exact ⟨_, rfl, rfl⟩
    · exact ⟨_, rfl, (by rw [o_D]; rfl)⟩
    · exact ⟨_, rfl, (by rw [sR4]; rfl)⟩
    · exact ⟨_, rfl, rfl⟩
    · exact ⟨_, rfl, rfl⟩
    · exact ⟨_, rfl, rfl⟩
    · exact ⟨_, rfl, rfl⟩
    · exact ⟨_, rfl, rfl⟩
    · exact ⟨_, rfl, (by rw [o_D]; rfl)⟩
  · rcases (show k = 20 ∨ k = 21 ∨ k = 22 ∨ k = 23 ∨ k = 24 ∨ k = 25 ∨ k = 26 ∨ k = 27 ∨ k = 28 ∨ k = 29 by omega) with rfl | rfl | rfl | rfl | rfl | rfl | rfl | rfl | rfl | rfl
    · exact ⟨_, rfl, (by rw [sR4]; rfl)⟩
    · exact ⟨_, rfl, rfl⟩
    · exact ⟨_, rfl, rfl⟩
    · exact ⟨_, rfl, rfl⟩
    · exact ⟨_, rfl, rfl⟩
    · exact ⟨_, rfl, rfl⟩
    · exact ⟨_, rfl, (by rw [o_G]; rfl)⟩
    · exact ⟨_, rfl, rfl⟩
    · exact ⟨_, rfl, rfl⟩
    · exact ⟨_, rfl, (by rw [sR2u]; rfl)⟩
  · rcases (show k = 30 ∨ k = 31 ∨ k = 32 ∨ k = 33 ∨ k = 34 ∨ k = 35 ∨ k = 36 ∨ k = 37 ∨ k = 38 ∨ k = 39 by omega) with rfl | rfl | rfl | rfl | rfl | rfl | rfl | rfl | rfl | rfl
    · exact ⟨_, rfl, (by rw [o_I]; rfl)⟩
    · exact ⟨_, rfl, (by rw [o_D]; rfl)⟩
    · exact ⟨_, rfl, (by rw [sR4]; rfl)⟩
    · exact ⟨_, rfl, rfl⟩
    · exact ⟨_, rfl, rfl⟩
    · exact ⟨_, rfl, rfl⟩
    · exact ⟨_, rfl, rfl⟩
    · exact ⟨_, rfl, rfl⟩
    · exact ⟨_, rfl, (by rw [o_G]; rfl)⟩
    · exact ⟨_, rfl, rfl⟩
  · rcases (show k = 40 ∨ k = 41 ∨ k = 42 ∨ k = 43 ∨ k = 44 ∨ k = 45 ∨ k = 46 ∨ k = 47 ∨ k = 48 ∨ k = 49 by omega) with rfl | rfl | rfl | rfl | rfl | rfl | rfl | rfl | rfl | rfl
    · exact ⟨_, rfl, rfl⟩
    · exact ⟨_, rfl, (by rw [o_I]; rfl)⟩
    · exact ⟨_, rfl, (by rw [o_D]; rfl)⟩
    · exact ⟨_, rfl, (by rw [sR4]; rfl)⟩
    · exact ⟨_, rfl, rfl⟩
    · exact ⟨_, rfl, rfl⟩
    · exact ⟨_, rfl, rfl⟩
    · exact ⟨_, rfl, rfl⟩
    · exact ⟨_, rfl, rfl⟩
    · exact ⟨_, rfl, (by rw [o_G]; rfl)⟩
  · rcases (show k = 50 ∨ k = 51 ∨ k = 52 ∨ k = 53 ∨ k = 54 ∨ k = 55 ∨ k = 56 ∨ k = 57 ∨ k = 58 ∨ k = 59 by omega) with rfl | rfl | rfl | rfl | rfl | rfl | rfl | rfl | rfl | rfl
    · exact ⟨_, rfl, rfl⟩
    · exact ⟨_, rfl, rfl⟩
    · exact ⟨_, rfl, (by rw [sR4u]; rfl)⟩
    · exact ⟨_, rfl, (by rw [o_S]; rfl)⟩
    · exact ⟨_, rfl, rfl⟩
    · exact ⟨_, rfl, (by rw [o_S]; rfl)⟩
    · exact ⟨_, rfl, rfl⟩
    · exact ⟨_, rfl, (by rw [o_S]; rfl)⟩
    · exact ⟨_, rfl, rfl⟩
    · exact ⟨_, rfl, (by rw [o_S]; rfl)⟩
  · rcases (show k = 60 ∨ k = 61 ∨ k = 62 ∨ k = 63 ∨ k = 64 ∨ k = 65 ∨ k = 66 ∨ k = 67 ∨ k = 68 ∨ k = 69 by omega) with rfl | rfl | rfl | rfl | rfl | rfl | rfl | rfl | rfl | rfl
    · exact ⟨_, rfl, rfl⟩
    · exact ⟨_, rfl, rfl⟩
    · exact ⟨_, rfl, rfl⟩
    · exact ⟨_, rfl, rfl⟩
    · exact ⟨_, rfl, (by rw [o_M]; rfl)⟩
    · exact ⟨_, rfl, rfl⟩
    · exact ⟨_, rfl, rfl⟩
    · exact ⟨_, rfl, rfl⟩
    · exact ⟨_, rfl, rfl⟩
    · exact ⟨_, rfl, rfl⟩
  · rcases (show k = 70 ∨ k = 71 ∨ k = 72 ∨ k = 73 ∨ k = 74 ∨ k = 75 ∨ k = 76 ∨ k = 77 ∨ k = 78 by omega) with rfl | rfl | rfl | rfl | rfl | rfl | rfl | rfl | rfl
    · exact ⟨_, rfl, rfl⟩
    · exact ⟨_, rfl, rfl⟩
    · exact ⟨_, rfl, rfl⟩
    · exact ⟨_, rfl, rfl⟩
    · exact ⟨_, rfl, rfl⟩
    · exact ⟨_, rfl, rfl⟩
    · exact ⟨_, rfl, rfl⟩
    · exact ⟨_, rfl, rfl⟩
    · exact ⟨_, rfl, rfl⟩
theorem wd_pt {E : EE} {σ : Mem} {w : va_W} {pl : Nat → Nat} (h : ∀ k, k < 79 → ∃ f, (shp E)[k]? = some f ∧ w[pl k]? = some (eA E k, f (σ.1 k) (σ.2 k))) : ((List.range 79).map pl).map (fun i => w[i]?) = (Wd E σ).map some := by
  apply List.ext_getElem?
  intro k
  by_cases hk : k < 79
  · obtain ⟨f, h1, h2⟩ := h k hk
    rw [List.map_map, List.getElem?_map, List.getElem?_map, Wd_get h1, List.getElem?_range hk]
    simp [h2]
  · have e1 : (((List.range 79).map pl).map (fun i => w[i]?))[k]? = none := List.getElem?_eq_none (by simp; omega)
    have e2 : ((Wd E σ).map some)[k]? = none := List.getElem?_eq_none (by rw [List.length_map, Wd_len]; omega)
    rw [e1, e2]
theorem fm_of {α β : Type} {f : α → Option β} : ∀ {l : List α} {r : List β}, l.map f = r.map some → l.filterMap f = r
  | [], [], _ => rfl
  | [], b :: r, h => by simp at h
  | a :: l, [], h => by simp at h
  | a :: l, b :: r, h => by
    simp only [List.map_cons, List.cons.injEq] at h
    rw [List.filterMap_cons, h.1, fm_of h.2]
theorem wd0 {D : va_G} {A M : Nat → Nat} {c6 : Nat → ClassId} {x6 : Nat → Nat} : plc.map (fun i => (xL c6 A ++ mL c6 M)[i]?) = (Wd (D, adM A M, c6, x6) sg0).map some := wd_pt wd_at
theorem shp_some {E : EE} {k : Nat} (h : k < 79) : ∃ f, (shp E)[k]? = some f := by
  rw [← shp_len E] at h
  exact ⟨_, List.getElem?_eq_getElem h⟩
theorem plc_nd : va_nd plc = true := by decide +kernel
theorem toW {D : va_G} {c6 : Nat → ClassId} {x6 : Nat → Nat} {n0 : Nat} {p : Program} {l : Launch} {e : Env} {R : Room} {s : State} {m : MethodId} {args : Array Value} {below : List Frame} {meth : Method} {c : Code} {Qf : State → Prop} {nL k n pc : Nat} {lv : List (Nat × Value)} {stk : List Value} {w : va_W} {own : String} {ws : List Cond} {cc : ByteArray} {ret : Option FieldType} {A : Nat → Nat}
    (C : CxN D c6 n0 p s m args meth c own ws cc nL ret) (hG : Glob (E0 D c6 x6 n0) n0 s s.heap) (M : Nat → Nat) (hw : w = xL c6 A ++ mL c6 M)
    (kk : CxW (D, adM A M, c6, x6) n0 p s m args meth c own ws cc nL ret → JW (D, adM A M, c6, x6) n0 p l e R s m args below meth c Qf nL k n pc lv stk sg0) : JN D n0 p l e R s m args below meth c Qf nL k n pc lv stk w := by
  obtain ⟨hx, hb, hr, hml, hown, hts, hlocks, hK, hn0⟩ := C
  intro H locs ls hP hD hS hl
  rw [hw] at hP hD
  have hP1 := hP.sub plc (fm_of (wd0 (D := D) (A := A) (M := M) (c6 := c6) (x6 := x6)))
  have hD1 := hD.sub plc plc_nd (wd0 (D := D) (A := A) (M := M) (c6 := c6) (x6 := x6))
  refine kk ⟨hx, hb, hr, hml, hown, hts, hlocks, hG, fun i j hi hj hij => ?_, fun i hi => ?_, hn0⟩ H locs ls hP1 hS hl
  · obtain ⟨f, hf⟩ := shp_some (E := (D, adM A M, c6, x6)) hi
    obtain ⟨g, hg⟩ := shp_some (E := (D, adM A M, c6, x6)) hj
    exact hD1.1 i j _ _ (Wd_get hf) (Wd_get hg) hij
  · obtain ⟨f, hf⟩ := shp_some (E := (D, adM A M, c6, x6)) hi
    exact hD1.2 i _ (Wd_get hf)
theorem start_inv : wp_X6_firstDraft sg0 (fun τ => wp_X6_keepDraft τ Inv) := by
  refine m_draft (fun τ hM hf => ?_)
  have hf6 : fits6 S0 := fun i hi => absurd hi (Nat.not_lt_zero i)
  refine m_keepD hM pi0 hf6 (fun υ u1 u2 u3 u4 u5 u6 => ?_)
  have a0 : ∀ k, 31 ≤ k → finA S0 k = 0 := fun k hk => by rw [finA_o (by omega)]; rfl
  have a24 : finA S0 24 = 0 := by rw [finA_o (by omega)]; rfl
  have ws : WS (finA S0) := ⟨by rw [a0 36 (by omega)]; omega, fun i hi => by rw [a0 36 (by omega)] at hi; omega⟩
  have g : ∀ a b, a ≠ 65 → a ≠ 67 → a ≠ 68 → ¬ (a = 64 ∧ 4 ≤ b ∧ b ≤ 8) → υ.1 a b = sg0.1 a b := fun a b q1 q2 q3 q4 => by rw [u6 a b q1 q2]; exact hf a b q3 q4
  refine ⟨finA S0, fun _ _ => 0, fun _ => 0, 0, fun _ => 0, fun _ => 0, fun _ => 0, fun _ _ => 0, 0, 0, ⟨⟨u1.1, ?_, fun h w hh => by rw [a24] at hh; omega, fun i hi => by rw [a24] at hi; omega, fun k k1 k2 => ?_⟩, ⟨ws, ?_, fun i hi => by rw [a0 36 (by omega)] at hi; omega⟩, by rw [a0 33 (by omega)]; omega, fun k hk => ⟨Or.inl rfl, ?_, fun q => absurd rfl q⟩, ⟨by omega, ?_, fun i hi => absurd hi (Nat.not_lt_zero i)⟩, fun k hk => ⟨fun i hi => ?_, fun _ => ?_, fun q => absurd rfl q⟩, ?_, ?_⟩, ⟨u1, ⟨ws, ?_, fun i hi => by rw [a0 36 (by omega)] at hi; omega⟩, fun k hk => ⟨?_, fun q => absurd rfl q⟩, ⟨by omega, ?_, fun i hi => absurd hi (Nat.not_lt_zero i)⟩, fun k hk => ⟨fun i hi => ?_, fun _ => ?_, fun q => absurd rfl q⟩, ?_, ?_⟩⟩
  · rw [a24, g 12 2 (by omega) (by omega) (by omega) (by omega)]; rfl
  · rw [a0 k k1, g 12 (k - 28) (by omega) (by omega) (by omega) (by omega)]
    rcases (show k = 31 ∨ k = 32 ∨ k = 33 ∨ k = 34 ∨ k = 35 by omega) with rfl | rfl | rfl | rfl | rfl <;> rfl
  · rw [a0 36 (by omega), g 26 2 (by omega) (by omega) (by omega) (by omega)]; rfl
  · rw [g _ 2 (by omega) (by omega) (by omega) (by omega)]
    rcases (show k = 0 ∨ k = 1 by omega) with rfl | rfl <;> rfl
  · rw [g 1 1 (by omega) (by omega) (by omega) (by omega)]; rfl
  · rw [g _ i (by omega) (by omega) (by omega) (by omega)]
    rcases (show k = 0 ∨ k = 1 ∨ k = 2 ∨ k = 3 by omega) with rfl | rfl | rfl | rfl <;> rfl
  · rw [g _ 2 (by omega) (by omega) (by omega) (by omega)]
    rcases (show k = 0 ∨ k = 1 ∨ k = 2 ∨ k = 3 by omega) with rfl | rfl | rfl | rfl <;> rfl
  · rw [g 1 4 (by omega) (by omega) (by omega) (by omega)]; rfl
  · rw [g 0 9 (by omega) (by omega) (by omega) (by omega)]; rfl
  · rw [a0 36 (by omega), u2]; rfl
  · rcases (show k = 0 ∨ k = 1 by omega) with rfl | rfl
    · exact u4
    · exact u5
  · rw [g 64 10 (by omega) (by omega) (by omega) (by omega)]; rfl
  · rw [g 76 _ (by omega) (by omega) (by omega) (by omega)]; rfl
  · rw [g 74 k (by omega) (by omega) (by omega) (by omega)]
    rcases (show k = 0 ∨ k = 1 ∨ k = 2 ∨ k = 3 by omega) with rfl | rfl | rfl | rfl <;> rfl
  · rw [g 64 15 (by omega) (by omega) (by omega) (by omega)]; rfl
  · rw [g 64 29 (by omega) (by omega) (by omega) (by omega)]; rfl
