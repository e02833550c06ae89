/-! what holds at the start -/
theorem arr_of {ty : FieldType} {A : Array Value} {s : State} (h : (Cond.arrayClass ty).before A s = true) : ∃ cA, ArrOfT s cA ty ∧ s.vm.findClass ("[" ++ ty.toString) = some cA := by
  obtain ⟨cA, kA, comp, h1, h2, h3⟩ := Cond.arrayClass_spec h
  exact ⟨cA, fun n z => ⟨fun k h => (by cases h), kA, h2, comp, h3⟩, h1⟩
theorem arr_ob {C : String} {A : Array Value} {s : State} (h : (Cond.arrayOver (.object C)).before A s = true) : ∃ cA, ArrOfT s cA (.object C) ∧ va_RA s cA (.object C) := by
  obtain ⟨comp, cA, kA, h1, h2, h3, h4, h5⟩ := Cond.arrayOver_spec h
  exact ⟨cA, fun n z => ⟨fun k h => (by cases h), kA, h3, comp, h4⟩, kA, comp, h3, h4, h1, h5⟩
theorem arr_ar {ty : FieldType} {A : Array Value} {s : State} (h : (Cond.arrayOver (.array ty)).before A s = true) : ∃ cA, ArrOfT s cA (.array ty) ∧ s.vm.findClass ("[" ++ (FieldType.array ty).toString) = some cA := by
  obtain ⟨comp, cA, kA, h1, h2, h3, h4, h5⟩ := arrayOver_specB h
  exact ⟨cA, fun n z => ⟨fun k h => (by cases h), kA, h3, comp, h4⟩, h5⟩
def tmS (i : Nat) : Term := .string "LeapKings$Tape" (sIdx.getD i 0)
set_option maxRecDepth 20000 in
theorem nw_in : ∀ q ∈ NWs, Cond.methodLinkNest q.1 q.2.1 q.2.2 RX5 ∈ lw_tbl := by decide +kernel
set_option maxHeartbeats 4000000 in
set_option maxRecDepth 100000 in
theorem start_K {A : Array Value} {s : State} (hts : ∀ w ∈ lw_tbl, w.before A s = true) : ∃ (D : va_G) (c6 : Nat → ClassId), KN D c6 s := by

  obtain ⟨d0, i0, k0⟩ := u_known (C := RX0) (T := TX0) (N := 12) (n := 12) hts wl_wsX00 (hts (.instantiable RX0 12) (by decide +kernel))
  obtain ⟨d1, i1, k1⟩ := u_known (C := RX1) (T := TX1) (N := 3) (n := 3) hts wl_wsX10 (hts (.instantiable RX1 3) (by decide +kernel))
  obtain ⟨d2, i2, k2⟩ := u_known (C := RX2) (T := TX2) (N := 3) (n := 3) hts wl_wsX20 (hts (.instantiable RX2 3) (by decide +kernel))
  obtain ⟨d3, i3, k3⟩ := u_known (C := RX3) (T := TX3) (N := 3) (n := 3) hts wl_wsX30 (hts (.instantiable RX3 3) (by decide +kernel))
  obtain ⟨d4, i4, k4⟩ := u_known (C := RX4) (T := TX4) (N := 17) (n := 17) hts wl_wsX40 (hts (.instantiable RX4 17) (by decide +kernel))
  obtain ⟨d5, i5, k5⟩ := u_known (C := RX5) (T := TX5) (N := 10) (n := 10) hts wl_wsX50 (hts (.instantiable RX5 10) (by decide +kernel))
  obtain ⟨d6, i6, k6⟩ := u_known (C := RX6) (T := TX6) (N := 31) (n := 31) hts wl_wsX60 (hts (.instantiable RX6 31) (by decide +kernel))
  obtain ⟨a0, p0, q0⟩ := arr_of (hts (.arrayClass .byte) (by decide +kernel))
  obtain ⟨a1, p1, q1⟩ := arr_of (hts (.arrayClass .int) (by decide +kernel))
  obtain ⟨a2, p2, q2⟩ := arr_of (hts (.arrayClass .boolean) (by decide +kernel))
  have o3 := hts (.arrayOver (.object "LeapKings$Image")) (by decide +kernel)
  have o4 := hts (.arrayOver (.object "LeapKings$Sheet")) (by decide +kernel)
  have o5 := hts (.arrayOver (.array .int)) (by decide +kernel)
  obtain ⟨a3, p3, q3⟩ := arr_ob o3
  obtain ⟨a4, p4, q4⟩ := arr_ob o4
  obtain ⟨a5, p5, q5⟩ := arr_ar o5
  refine ⟨(fun k => [d0, d1, d2, d3, d4, d5, d6].getD k d0, fun k => [i0, i1, i2, i3, i4, i5, i6].getD k i0), fun k => [a0, a1, a2, a3, a4, a5].getD k a0, ⟨fun k q hq => ?_, fun k q hq => ?_⟩, fun q hq => va_Nw.of rfl (hts _ (nw_in q hq)), va_AO.of o3, va_AO.of o4, va_AOA.of o5⟩
  · match k, hq with
    | 0, hq => cases (show (some (RX0, TX0, 12) : Option vw_C) = some q from hq); exact k0
    | 1, hq => cases (show (some (RX1, TX1, 3) : Option vw_C) = some q from hq); exact k1
    | 2, hq => cases (show (some (RX2, TX2, 3) : Option vw_C) = some q from hq); exact k2
    | 3, hq => cases (show (some (RX3, TX3, 3) : Option vw_C) = some q from hq); exact k3
    | 4, hq => cases (show (some (RX4, TX4, 17) : Option vw_C) = some q from hq); exact k4
    | 5, hq => cases (show (some (RX5, TX5, 10) : Option vw_C) = some q from hq); exact k5
    | 6, hq => cases (show (some (RX6, TX6, 31) : Option vw_C) = some q from hq); exact k6
    | k + 7, hq => simp [vwCl] at hq
  · match k, hq with
    | 0, hq => cases (show (some (a0, .byte) : Option (ClassId × FieldType)) = some q from hq); exact ⟨p0, q0⟩
    | 1, hq => cases (show (some (a1, .int) : Option (ClassId × FieldType)) = some q from hq); exact ⟨p1, q1⟩
    | 2, hq => cases (show (some (a2, .boolean) : Option (ClassId × FieldType)) = some q from hq); exact ⟨p2, q2⟩
    | 3, hq => cases (show (some (a3, .object "LeapKings$Image") : Option (ClassId × FieldType)) = some q from hq); exact ⟨p3, q3⟩
    | 4, hq => cases (show (some (a4, .object "LeapKings$Sheet") : Option (ClassId × FieldType)) = some q from hq); exact ⟨p4, q4⟩
    | 5, hq => cases (show (some (a5, .array .int) : Option (ClassId × FieldType)) = some q from hq); exact ⟨p5, q5⟩
    | k + 6, hq => simp [ty6] at hq
theorem lt7 {P : Nat → Prop} (h0 : P 0) (h1 : P 1) (h2 : P 2) (h3 : P 3) (h4 : P 4) (h5 : P 5) (h6 : P 6) : ∀ i, i < 7 → P i := fun i hi => by
  rcases (show i = 0 ∨ i = 1 ∨ i = 2 ∨ i = 3 ∨ i = 4 ∨ i = 5 ∨ i = 6 by omega) with rfl | rfl | rfl | rfl | rfl | rfl | rfl
  · exact h0
  · exact h1
  · exact h2
  · exact h3
  · exact h4
  · exact h5
  · exact h6
theorem lt4 {P : Nat → Prop} (h0 : P 0) (h1 : P 1) (h2 : P 2) (h3 : P 3) : ∀ i, i < 4 → P i := fun i hi => by
  rcases (show i = 0 ∨ i = 1 ∨ i = 2 ∨ i = 3 by omega) with rfl | rfl | rfl | rfl
  · exact h0
  · exact h1
  · exact h2
  · exact h3
theorem ltn {P : Nat → Prop} {n : Nat} (h : ∀ i : Fin n, P i.val) : ∀ i, i < n → P i := fun i hi => h ⟨i, hi⟩
abbrev gvC : Cond := Jvm.Cond.and given_1 narrow_1

set_option maxHeartbeats 4000000 in
set_option maxRecDepth 100000 in
theorem start_LEAST {A : Array Value} {s : State} (hts : ∀ w ∈ lw_tbl, w.before A s = true) (hq : ∀ w ∈ flatC gvC, w.before A s = true) : ∃ t : Nat, va_Z "LeapKings" "LEAST" "[I" (.ref t) (GA (fun _ => s.heap.size) s.heap.size) s s.heap ∧ va_T .int t 4 (fun j => .int (tLeast.getD j 0)) (GA (fun _ => s.heap.size) s.heap.size) s s.heap := by
  have hA : ∀ a : Nat, a < s.heap.size → ¬ GA (fun _ => s.heap.size) s.heap.size a := fun a ha h => by
    rcases h with ⟨k, hk, e⟩ | h
    · have e : a = s.heap.size := e
      omega
    · have h : s.heap.size ≤ a := h
      omega
  obtain ⟨t, h1, h2⟩ := va_Tof (f := fun j => .int (tLeast.getD j 0)) (A := GA (fun _ => s.heap.size) s.heap.size) (N := 4) (tm := .static "LeapKings" "LEAST" "[I") (by decide) (hq (.arrayOf (.static "LeapKings" "LEAST" "[I") .int) (by decide +kernel)) (va_eqt (hq (.eq (.length (.static "LeapKings" "LEAST" "[I")) (.int 4)) (by decide +kernel)))
    (lt4 (va_eqt (hq (.eq (.elem (.static "LeapKings" "LEAST" "[I") (.int 0)) (.int 0)) (by decide +kernel))) (va_eqt (hq (.eq (.elem (.static "LeapKings" "LEAST" "[I") (.int 1)) (.int 0)) (by decide +kernel))) (va_eqt (hq (.eq (.elem (.static "LeapKings" "LEAST" "[I") (.int 2)) (.int 1)) (by decide +kernel))) (va_eqt (hq (.eq (.elem (.static "LeapKings" "LEAST" "[I") (.int 3)) (.int 1)) (by decide +kernel)))) hA
  exact ⟨t, va_Zref (hts (.laysStatic "LeapKings" "LEAST" "[I") (by decide +kernel)) (hts (.initialized "LeapKings") (by decide +kernel)) h1 hA, h2⟩
set_option maxHeartbeats 4000000 in
set_option maxRecDepth 100000 in
theorem start_GREATEST {A : Array Value} {s : State} (hts : ∀ w ∈ lw_tbl, w.before A s = true) (hq : ∀ w ∈ flatC gvC, w.before A s = true) : ∃ t : Nat, va_Z "LeapKings" "GREATEST" "[I" (.ref t) (GA (fun _ => s.heap.size) s.heap.size) s s.heap ∧ va_T .int t 4 (fun j => .int (tGreat.getD j 0)) (GA (fun _ => s.heap.size) s.heap.size) s s.heap := by
  have hA : ∀ a : Nat, a < s.heap.size → ¬ GA (fun _ => s.heap.size) s.heap.size a := fun a ha h => by
    rcases h with ⟨k, hk, e⟩ | h
    · have e : a = s.heap.size := e
      omega
    · have h : s.heap.size ≤ a := h
      omega
  obtain ⟨t, h1, h2⟩ := va_Tof (f := fun j => .int (tGreat.getD j 0)) (A := GA (fun _ => s.heap.size) s.heap.size) (N := 4) (tm := .static "LeapKings" "GREATEST" "[I") (by decide) (hq (.arrayOf (.static "LeapKings" "GREATEST" "[I") .int) (by decide +kernel)) (va_eqt (hq (.eq (.length (.static "LeapKings" "GREATEST" "[I")) (.int 4)) (by decide +kernel)))
    (lt4 (va_eqt (hq (.eq (.elem (.static "LeapKings" "GREATEST" "[I") (.int 0)) (.int 3)) (by decide +kernel))) (va_eqt (hq (.eq (.elem (.static "LeapKings" "GREATEST" "[I") (.int 1)) (.int 20)) (by decide +kernel))) (va_eqt (hq (.eq (.elem (.static "LeapKings" "GREATEST" "[I") (.int 2)) (.int 20)) (by decide +kernel))) (va_eqt (hq (.eq (.elem (.static "LeapKings" "GREATEST" "[I") (.int 3)) (.int 30)) (by decide +kernel)))) hA
  exact ⟨t, va_Zref (hts (.laysStatic "LeapKings" "GREATEST" "[I") (by decide +kernel)) (hts (.initialized "LeapKings") (by decide +kernel)) h1 hA, h2⟩
