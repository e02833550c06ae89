theorem lt7x {P : Nat → Nat → Prop} (h : ∀ i j, i < j → j < 7 → P i j) : ∀ i j, i < 7 → j < 7 → i ≠ j → P i j ∨ P j i := fun i j hi hj hij => by
  rcases Nat.lt_or_gt_of_ne hij with q | q
  · exact Or.inl (h i j q hj)
  · exact Or.inr (h j i q hi)
theorem lt7y {P : Nat → Prop} (h0 : 0 < 7 → P 0) (h1 : 1 < 7 → P 1) (h2 : 2 < 7 → P 2) (h3 : 3 < 7 → P 3) (h4 : 4 < 7 → P 4) (h5 : 5 < 7 → P 5) (h6 : 6 < 7 → P 6) : ∀ i, i < 7 → P i := lt7 (h0 (by decide)) (h1 (by decide)) (h2 (by decide)) (h3 (by decide)) (h4 (by decide)) (h5 (by decide)) (h6 (by decide))
/-! the texts at the start -/
set_option maxHeartbeats 8000000 in
set_option maxRecDepth 100000 in
theorem start_S {A : Array Value} {s : State} (hts : ∀ w ∈ lw_tbl, w.before A s = true) (hq : ∀ w ∈ flatC gvC, w.before A s = true) : ∃ adK adV : Nat → Nat, vk_S 7 sLen sByt adK adV (GA (fun _ => s.heap.size) s.heap.size) s s.heap ∧ ∀ i, i < 7 → vk_R RX4 (sIdx.getD i 0) (sTxt.getD i "") (adK i) s := by
  have hA : ∀ a : Nat, a < s.heap.size → ¬ GA (fun _ => s.heap.size) s.heap.size a := fun a ha h => by
    rcases h with ⟨k, hk, e⟩ | h
    · have e : a = s.heap.size := e
      omega
    · have h : s.heap.size ≤ a := h
      omega
  have hex : ∀ i : Nat, i < 7 → (Cond.exactly (tmS i) "java/lang/String").before A s = true := (lt7 (hq (.exactly (.string "LeapKings$Tape" 138) "java/lang/String") (by decide +kernel)) (hq (.exactly (.string "LeapKings$Tape" 140) "java/lang/String") (by decide +kernel)) (hq (.exactly (.string "LeapKings$Tape" 142) "java/lang/String") (by decide +kernel)) (hq (.exactly (.string "LeapKings$Tape" 144) "java/lang/String") (by decide +kernel)) (hq (.exactly (.string "LeapKings$Tape" 119) "java/lang/String") (by decide +kernel)) (hq (.exactly (.string "LeapKings$Tape" 128) "java/lang/String") (by decide +kernel)) (hq (.exactly (.string "LeapKings$Tape" 133) "java/lang/String") (by decide +kernel)))
  have hco : ∀ i : Nat, i < 7 → (Cond.eq (.field (tmS i) "java/lang/String" "coder" "B") (.int 0)).before A s = true := (lt7 (hq (.eq (.field (.string "LeapKings$Tape" 138) "java/lang/String" "coder" "B") (.int 0)) (by decide +kernel)) (hq (.eq (.field (.string "LeapKings$Tape" 140) "java/lang/String" "coder" "B") (.int 0)) (by decide +kernel)) (hq (.eq (.field (.string "LeapKings$Tape" 142) "java/lang/String" "coder" "B") (.int 0)) (by decide +kernel)) (hq (.eq (.field (.string "LeapKings$Tape" 144) "java/lang/String" "coder" "B") (.int 0)) (by decide +kernel)) (hq (.eq (.field (.string "LeapKings$Tape" 119) "java/lang/String" "coder" "B") (.int 0)) (by decide +kernel)) (hq (.eq (.field (.string "LeapKings$Tape" 128) "java/lang/String" "coder" "B") (.int 0)) (by decide +kernel)) (hq (.eq (.field (.string "LeapKings$Tape" 133) "java/lang/String" "coder" "B") (.int 0)) (by decide +kernel)))
  have har : ∀ i : Nat, i < 7 → (Cond.arrayOf (.field (tmS i) "java/lang/String" "value" "[B") .byte).before A s = true := (lt7 (hq (.arrayOf (.field (.string "LeapKings$Tape" 138) "java/lang/String" "value" "[B") .byte) (by decide +kernel)) (hq (.arrayOf (.field (.string "LeapKings$Tape" 140) "java/lang/String" "value" "[B") .byte) (by decide +kernel)) (hq (.arrayOf (.field (.string "LeapKings$Tape" 142) "java/lang/String" "value" "[B") .byte) (by decide +kernel)) (hq (.arrayOf (.field (.string "LeapKings$Tape" 144) "java/lang/String" "value" "[B") .byte) (by decide +kernel)) (hq (.arrayOf (.field (.string "LeapKings$Tape" 119) "java/lang/String" "value" "[B") .byte) (by decide +kernel)) (hq (.arrayOf (.field (.string "LeapKings$Tape" 128) "java/lang/String" "value" "[B") .byte) (by decide +kernel)) (hq (.arrayOf (.field (.string "LeapKings$Tape" 133) "java/lang/String" "value" "[B") .byte) (by decide +kernel)))
  have hle : ∀ i : Nat, i < 7 → (Cond.eq (.length (.field (tmS i) "java/lang/String" "value" "[B")) (.int (Int32.ofNat (sLen.getD i 0)))).before A s = true := (lt7 (hq (.eq (.length (.field (.string "LeapKings$Tape" 138) "java/lang/String" "value" "[B")) (.int 5)) (by decide +kernel)) (hq (.eq (.length (.field (.string "LeapKings$Tape" 140) "java/lang/String" "value" "[B")) (.int 4)) (by decide +kernel)) (hq (.eq (.length (.field (.string "LeapKings$Tape" 142) "java/lang/String" "value" "[B")) (.int 7)) (by decide +kernel)) (hq (.eq (.length (.field (.string "LeapKings$Tape" 144) "java/lang/String" "value" "[B")) (.int 5)) (by decide +kernel)) (hq (.eq (.length (.field (.string "LeapKings$Tape" 119) "java/lang/String" "value" "[B")) (.int 4)) (by decide +kernel)) (hq (.eq (.length (.field (.string "LeapKings$Tape" 128) "java/lang/String" "value" "[B")) (.int 7)) (by decide +kernel)) (hq (.eq (.length (.field (.string "LeapKings$Tape" 133) "java/lang/String" "value" "[B")) (.int 5)) (by decide +kernel)))
  have hel : ∀ i : Nat, i < 7 → ∀ j : Nat, j < sLen.getD i 0 → (Cond.eq (.elem (.field (tmS i) "java/lang/String" "value" "[B") (.int (Int32.ofNat j))) (.int ((sByt.getD i []).getD j 0))).before A s = true := by
    refine lt7 ?_ ?_ ?_ ?_ ?_ ?_ ?_
    · intro j hj
      have hj : j < 5 := hj
      rcases (show j = 0 ∨ j = 1 ∨ j = 2 ∨ j = 3 ∨ j = 4 by omega) with rfl | rfl | rfl | rfl | rfl
      · exact hq (.eq (.elem (.field (.string "LeapKings$Tape" 138) "java/lang/String" "value" "[B") (.int 0)) (.int 112)) (by decide +kernel)
      · exact hq (.eq (.elem (.field (.string "LeapKings$Tape" 138) "java/lang/String" "value" "[B") (.int 1)) (.int 108)) (by decide +kernel)
      · exact hq (.eq (.elem (.field (.string "LeapKings$Tape" 138) "java/lang/String" "value" "[B") (.int 2)) (.int 97)) (by decide +kernel)
      · exact hq (.eq (.elem (.field (.string "LeapKings$Tape" 138) "java/lang/String" "value" "[B") (.int 3)) (.int 105)) (by decide +kernel)
      · exact hq (.eq (.elem (.field (.string "LeapKings$Tape" 138) "java/lang/String" "value" "[B") (.int 4)) (.int 110)) (by decide +kernel)
    · intro j hj
      have hj : j < 4 := hj
      rcases (show j = 0 ∨ j = 1 ∨ j = 2 ∨ j = 3 by omega) with rfl | rfl | rfl | rfl
      · exact hq (.eq (.elem (.field (.string "LeapKings$Tape" 140) "java/lang/String" "value" "[B") (.int 0)) (.int 116)) (by decide +kernel)
      · exact hq (.eq (.elem (.field (.string "LeapKings$Tape" 140) "java/lang/String" "value" "[B") (.int 1)) (.int 97)) (by decide +kernel)
      · exact hq (.eq (.elem (.field (.string "LeapKings$Tape" 140) "java/lang/String" "value" "[B") (.int 2)) (.int 108)) (by decide +kernel)
      · exact hq (.eq (.elem (.field (.string "LeapKings$Tape" 140) "java/lang/String" "value" "[B") (.int 3)) (.int 108)) (by decide +kernel)
    · intro j hj
      have hj : j < 7 := hj
      rcases (show j = 0 ∨ j = 1 ∨ j = 2 ∨ j = 3 ∨ j = 4 ∨ j = 5 ∨ j = 6 by omega) with rfl | rfl | rfl | rfl | rfl | rfl | rfl
      · exact hq (.eq (.elem (.field (.string "LeapKings$Tape" 142) "java/lang/String" "value" "[B") (.int 0)) (.int 115)) (by decide +kernel)
      · exact hq (.eq (.elem (.field (.string "LeapKings$Tape" 142) "java/lang/String" "value" "[B") (.int 1)) (.int 116)) (by decide +kernel)
      · exact hq (.eq (.elem (.field (.string "LeapKings$Tape" 142) "java/lang/String" "value" "[B") (.int 2)) (.int 111)) (by decide +kernel)
      · exact hq (.eq (.elem (.field (.string "LeapKings$Tape" 142) "java/lang/String" "value" "[B") (.int 3)) (.int 111)) (by decide +kernel)
      · exact hq (.eq (.elem (.field (.string "LeapKings$Tape" 142) "java/lang/String" "value" "[B") (.int 4)) (.int 112)) (by decide +kernel)
      · exact hq (.eq (.elem (.field (.string "LeapKings$Tape" 142) "java/lang/String" "value" "[B") (.int 5)) (.int 101)) (by decide +kernel)
      · exact hq (.eq (.elem (.field (.string "LeapKings$Tape" 142) "java/lang/String" "value" "[B") (.int 6)) (.int 100)) (by decide +kernel)
    · intro j hj
      have hj : j < 5 := hj
      rcases (show j = 0 ∨ j = 1 ∨ j = 2 ∨ j = 3 ∨ j = 4 by omega) with rfl | rfl | rfl | rfl | rfl
      · exact hq (.eq (.elem (.field (.string "LeapKings$Tape" 144) "java/lang/String" "value" "[B") (.int 0)) (.int 115)) (by decide +kernel)
      · exact hq (.eq (.elem (.field (.string "LeapKings$Tape" 144) "java/lang/String" "value" "[B") (.int 1)) (.int 116)) (by decide +kernel)
      · exact hq (.eq (.elem (.field (.string "LeapKings$Tape" 144) "java/lang/String" "value" "[B") (.int 2)) (.int 111)) (by decide +kernel)
      · exact hq (.eq (.elem (.field (.string "LeapKings$Tape" 144) "java/lang/String" "value" "[B") (.int 3)) (.int 111)) (by decide +kernel)
      · exact hq (.eq (.elem (.field (.string "LeapKings$Tape" 144) "java/lang/String" "value" "[B") (.int 4)) (.int 108)) (by decide +kernel)
    · intro j hj
      have hj : j < 4 := hj
      rcases (show j = 0 ∨ j = 1 ∨ j = 2 ∨ j = 3 by omega) with rfl | rfl | rfl | rfl
      · exact hq (.eq (.elem (.field (.string "LeapKings$Tape" 119) "java/lang/String" "value" "[B") (.int 0)) (.int 108)) (by decide +kernel)
      · exact hq (.eq (.elem (.field (.string "LeapKings$Tape" 119) "java/lang/String" "value" "[B") (.int 1)) (.int 105)) (by decide +kernel)
      · exact hq (.eq (.elem (.field (.string "LeapKings$Tape" 119) "java/lang/String" "value" "[B") (.int 2)) (.int 110)) (by decide +kernel)
      · exact hq (.eq (.elem (.field (.string "LeapKings$Tape" 119) "java/lang/String" "value" "[B") (.int 3)) (.int 101)) (by decide +kernel)
    · intro j hj
      have hj : j < 7 := hj
      rcases (show j = 0 ∨ j = 1 ∨ j = 2 ∨ j = 3 ∨ j = 4 ∨ j = 5 ∨ j = 6 by omega) with rfl | rfl | rfl | rfl | rfl | rfl | rfl
      · exact hq (.eq (.elem (.field (.string "LeapKings$Tape" 128) "java/lang/String" "value" "[B") (.int 0)) (.int 108)) (by decide +kernel)
      · exact hq (.eq (.elem (.field (.string "LeapKings$Tape" 128) "java/lang/String" "value" "[B") (.int 1)) (.int 117)) (by decide +kernel)
      · exact hq (.eq (.elem (.field (.string "LeapKings$Tape" 128) "java/lang/String" "value" "[B") (.int 2)) (.int 109)) (by decide +kernel)
      · exact hq (.eq (.elem (.field (.string "LeapKings$Tape" 128) "java/lang/String" "value" "[B") (.int 3)) (.int 98)) (by decide +kernel)
      · exact hq (.eq (.elem (.field (.string "LeapKings$Tape" 128) "java/lang/String" "value" "[B") (.int 4)) (.int 97)) (by decide +kernel)
      · exact hq (.eq (.elem (.field (.string "LeapKings$Tape" 128) "java/lang/String" "value" "[B") (.int 5)) (.int 103)) (by decide +kernel)
      · exact hq (.eq (.elem (.field (.string "LeapKings$Tape" 128) "java/lang/String" "value" "[B") (.int 6)) (.int 111)) (by decide +kernel)
    · intro j hj
      have hj : j < 5 := hj
      rcases (show j = 0 ∨ j = 1 ∨ j = 2 ∨ j = 3 ∨ j = 4 by omega) with rfl | rfl | rfl | rfl | rfl
      · exact hq (.eq (.elem (.field (.string "LeapKings$Tape" 133) "java/lang/String" "value" "[B") (.int 0)) (.int 119)) (by decide +kernel)
      · exact hq (.eq (.elem (.field (.string "LeapKings$Tape" 133) "java/lang/String" "value" "[B") (.int 1)) (.int 111)) (by decide +kernel)
      · exact hq (.eq (.elem (.field (.string "LeapKings$Tape" 133) "java/lang/String" "value" "[B") (.int 2)) (.int 114)) (by decide +kernel)
      · exact hq (.eq (.elem (.field (.string "LeapKings$Tape" 133) "java/lang/String" "value" "[B") (.int 3)) (.int 107)) (by decide +kernel)
      · exact hq (.eq (.elem (.field (.string "LeapKings$Tape" 133) "java/lang/String" "value" "[B") (.int 4)) (.int 115)) (by decide +kernel)
  have hne : ∀ i j : Nat, i < 7 → j < 7 → i ≠ j → (Cond.not (Cond.eq (tmS i) (tmS j))).before A s = true ∨ (Cond.not (Cond.eq (tmS j) (tmS i))).before A s = true := by
    refine lt7x ?_
    intro i j hij hj
    have h : ∀ j, j < 7 → ∀ i, i < j → Cond.not (Cond.eq (tmS i) (tmS j)) ∈ flatC gvC := by decide +kernel
    exact hq _ (h j hj i hij)
  obtain ⟨adK, adV, h1, h2⟩ := vk_Sof (N := 7) (tm := tmS) (len := sLen) (byt := sByt) (A := GA (fun _ => s.heap.size) s.heap.size) (by decide) hex hco har hle hel hne hA
  refine ⟨adK, adV, h1, fun i hi => vk_R.of ?_ (h2 i hi)⟩
  revert i
  exact (lt7y (fun _ => hts (.stringRef RX4 138 "plain") (by decide +kernel)) (fun _ => hts (.stringRef RX4 140 "tall") (by decide +kernel)) (fun _ => hts (.stringRef RX4 142 "stooped") (by decide +kernel)) (fun _ => hts (.stringRef RX4 144 "stool") (by decide +kernel)) (fun _ => hts (.stringRef RX4 119 "line") (by decide +kernel)) (fun _ => hts (.stringRef RX4 128 "lumbago") (by decide +kernel)) (fun _ => hts (.stringRef RX4 133 "works") (by decide +kernel)))
set_option maxHeartbeats 4000000 in
set_option maxRecDepth 100000 in
theorem start_G {A : Array Value} {s : State} {D : va_G} {c6 : Nat → ClassId} (hK : KN D c6 s) (hts : ∀ w ∈ lw_tbl, w.before A s = true) (hq : ∀ w ∈ flatC gvC, w.before A s = true) : ∃ x6 : Nat → Nat, Glob (E0 D c6 x6 s.heap.size) s.heap.size s s.heap := by
  have hA : ∀ a : Nat, a < s.heap.size → ¬ GA (fun _ => s.heap.size) s.heap.size a := fun a ha h => by
    rcases h with ⟨k, hk, e⟩ | h
    · have e : a = s.heap.size := e
      omega
    · have h : s.heap.size ≤ a := h
      omega
  obtain ⟨t0, z0', u0⟩ := start_LEAST hts hq
  obtain ⟨t1, z1', u1⟩ := start_GREATEST hts hq
  obtain ⟨adK, adV, h1, h2⟩ := start_S hts hq
  refine ⟨fun k => if k = 0 then t0 else if k = 1 then t1 else if k < 20 then adK (k - 10) else adV (k - 20), hK.1, ⟨?_, ?_, ?_, ?_, ?_, ?_⟩, ⟨z0', u0⟩, ⟨z1', u1⟩, ?_, ?_, ?_, ?_⟩
  · exact va_Nw.of rfl (hts _ (by decide +kernel))
  · exact va_Nw.of rfl (hts _ (by decide +kernel))
  · exact va_Nw.of rfl (hts _ (by decide +kernel))
  · exact va_Nw.of rfl (hts _ (by decide +kernel))
  · exact va_Nw.of rfl (hts _ (by decide +kernel))
  · exact va_Nw.of rfl (hts _ (by decide +kernel))
  · intro i hi
    have e : (if 10 + i = 0 then t0 else if 10 + i = 1 then t1 else if 10 + i < 20 then adK (10 + i - 10) else adV (10 + i - 20)) = adK i := by
      rw [if_neg (by omega), if_neg (by omega), if_pos (by omega), Nat.add_sub_cancel_left]
    have h := h2 i hi
    rw [← e] at h
    exact h
  · have e1 : ∀ i, i < 7 → (if 10 + i = 0 then t0 else if 10 + i = 1 then t1 else if 10 + i < 20 then adK (10 + i - 10) else adV (10 + i - 20)) = adK i := fun i hi => by
      rw [if_neg (by omega), if_neg (by omega), if_pos (by omega), Nat.add_sub_cancel_left]
    have e2 : ∀ i, i < 7 → (if 20 + i = 0 then t0 else if 20 + i = 1 then t1 else if 20 + i < 20 then adK (20 + i - 10) else adV (20 + i - 20)) = adV i := fun i hi => by
      rw [if_neg (by omega), if_neg (by omega), if_neg (by omega), Nat.add_sub_cancel_left]
    refine ⟨fun i hi => ?_, fun i j hi hj h => ?_⟩
    · have h := h1.1 i hi
      rw [← e1 i hi, ← e2 i hi] at h
      exact h
    · exact h1.2 i j hi hj (by rw [← e1 i hi, ← e1 j hj]; exact h)
  · exact va_Zof (hts (.laysStatic "java/lang/String" "COMPACT_STRINGS" "Z") (by decide +kernel)) (hts (.initialized "java/lang/String") (by decide +kernel)) (va_eqt (hq (.eq (.static "java/lang/String" "COMPACT_STRINGS" "Z") (.int 1)) (by decide +kernel))) hA
  · exact va_Zqof (hts (.laysStatic "jdk/internal/util/Preconditions" "SIOOBE_FORMATTER" "Ljava/util/function/BiFunction;") (by decide +kernel)) (hts (.initialized "jdk/internal/util/Preconditions") (by decide +kernel)) (hq (.isRef (.static "jdk/internal/util/Preconditions" "SIOOBE_FORMATTER" "Ljava/util/function/BiFunction;")) (by decide +kernel)) hA
