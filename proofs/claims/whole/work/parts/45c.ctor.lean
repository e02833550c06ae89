/-! constructors called from the law -/
theorem inlX5 : ∀ w ∈ wsX50, w ∈ wsL_law := fun _ h => List.mem_append_left _ (List.mem_append_left _ (List.mem_append_left _ (List.mem_append_left _ (List.mem_append_left _ (List.mem_append_left _ (List.mem_append_left _ (List.mem_append_right _ h)))))))
theorem inlX6 : ∀ w ∈ wsX60, w ∈ wsL_law := fun _ h => List.mem_append_left _ (List.mem_append_left _ (List.mem_append_left _ (List.mem_append_left _ (List.mem_append_left _ (List.mem_append_left _ (List.mem_append_right _ h))))))
section LAWI
variable {D : va_G} {c6 : Nat → ClassId} {x6 : Nat → Nat} {n0 : Nat} {p : Program} {l : Launch} {e : Env} {R : Room} {s : State} {m : MethodId} {args : Array Value} {below : List Frame} {meth : Method} {c : Code} {Qf : State → Prop} {nL k n pc : Nat} {lv : List (Nat × Value)} {stk : List Value} {own : String} {ws : List Cond} {cc : ByteArray} {rt : Option FieldType} {A : Nat → Nat}
theorem n_initX (C : CxN D c6 n0 p s m args meth c own ws cc nL rt) {h idx : Nat} (hG : GoodIn ws wsX5_init) (hi : Cond.initialized RX5 ∈ ws) (hl0 : Cond.methodLink own idx yX5_init ∈ ws) (hm : Cond.instanceMethod yX5_init ∈ ws) (hR : rmI5.frames + 1 ≤ R.frames ∧ 8 + (2 + 11) + rmI5.locals ≤ R.locals) (hro : (stk.map fun v => v.category).sum ≤ 8) (hf : k + 64 ≤ R.cells ∧ n + 798 ≤ R.slots) (hdg : decode cc pc = .ok (.invokespecial idx, 3)) (kk : ∀ A : Nat → Nat, A 0 = h → JN D n0 p l e R s m args below meth c Qf nL (k + 64) (n + 798) (pc + 3) lv stk (xL c6 A)) : JN D n0 p l e R s m args below meth c Qf nL k n pc lv (.ref h :: stk) [(h, .inr (5, [.null, .null, .null, .null, .null, .null, .null, .null, .null, .int 0]))] := by
  obtain ⟨hx, hb, hr, hml, hown, hts, hlocks, hK, hn0⟩ := C
  intro H locs ls hP hD hS hl
  have hsz := hS.1
  refine va_callv (va_runI (As := []) (rest := stk) (b := h) ⟨hx, hb, hml, hown, hts⟩ (k_X5_init (h := h) H.size []) (cwI 0 hts hG rfl rfl rfl (hts _ hi) (hts _ hl0) (hts _ hm) rfl (by decide +kernel) hR) ⟨Ld.blind, fun U hU hW => ⟨rfl, by rw [hU], Nat.le_trans hn0 hsz, by rw [hU]; exact hP, hD, hK.step hW⟩⟩ rfl rfl hl.1 rfl (lv_room hro) hdg hf) hS (fun q _ hq => hq) (fun q hq => hq) (fun u t H1 locs1 ht hvm hw hB hz1 hk1 hS1 => ?_)
  obtain ⟨A, hA, rfl⟩ := hw
  obtain ⟨hP1, hD1⟩ := hB
  rw [ht] at hP1
  exact kk A hA H1 locs1 ls hP1 hD1 hS1 hl
theorem n_initM (C : CxN D c6 n0 p s m args meth c own ws cc nL rt) (hGl : Glob (E0 D c6 x6 n0) n0 s s.heap) {h idx : Nat} (hG : GoodIn ws wsX6_init) (hi : Cond.initialized RX6 ∈ ws) (hl0 : Cond.methodLink own idx yX6_init ∈ ws) (hm : Cond.instanceMethod yX6_init ∈ ws) (hR : rmI6.frames + 1 ≤ R.frames ∧ 8 + (2 + 11) + rmI6.locals ≤ R.locals) (hro : (stk.map fun v => v.category).sum ≤ 8) (hf : k + 13 ≤ R.cells ∧ n + 783 ≤ R.slots) (hdg : decode cc pc = .ok (.invokespecial idx, 3))
    (kk : ∀ (E : EE) (σ : Mem), CxW E n0 p s m args meth c own ws cc nL rt → eA E 0 = A 0 → eA E 64 = h → Inv σ → JW E n0 p l e R s m args below meth c Qf nL (k + 13) (n + 783) (pc + 3) lv stk σ) : JN D n0 p l e R s m args below meth c Qf nL k n pc lv (.ref h :: stk) (xL c6 A ++ [(h, .inr (6, iniM))]) := by
  obtain ⟨hx, hb, hr, hml, hown, hts, hlocks, hK, hn0⟩ := C
  intro H locs ls hP hD hS hl
  have hsz := hS.1
  refine va_callv (va_runI (As := []) (rest := stk) (b := h) ⟨hx, hb, hml, hown, hts⟩ (k_X6_init (x6 := x6) (h := h) (A := A) H.size) (cwI 0 hts hG rfl rfl rfl (hts _ hi) (hts _ hl0) (hts _ hm) rfl (by decide +kernel) hR) ⟨LdM.blind, fun U hU hW => ⟨rfl, ⟨by rw [hU], Nat.le_trans hn0 hsz, by rw [hU]; exact hP, hD, hK.step hW⟩, by rw [hU]; exact glob_on hGl hS hW⟩⟩ rfl rfl hl.1 rfl (lv_room hro) hdg hf) hS (fun q _ hq => hq) (fun q hq => hq) (fun u t H1 locs1 ht hvm hw hB hz1 hk1 hS1 => ?_)
  obtain ⟨⟨D1, ad, c1, x1⟩, σ⟩ := u
  obtain ⟨rfl, rfl, rfl, e1, e2, hAp, hN, hI⟩ := hw
  have hP1 : va_P D1 vwCl (Wd (D1, ad, c1, x1) σ) t.heap := hB
  rw [ht] at hP1
  exact kk (D1, ad, c1, x1) σ ⟨hx, hb, hr, hml, hown, hts, hlocks, hGl, hAp, hN, hn0⟩ e1 e2 hI H1 locs1 ls hP1 hS1 hl
end LAWI
