/-! the law's loop -/
section LAWL
variable {E : EE} {n0 : Nat} {p : Program} {l : Launch} {e : Env} {s : State} {m : MethodId} {args : Array Value} {below : List Frame} {meth : Method} {c : Code} {Qf : State → Prop} {k n b L : Nat} {xs : Nat → Int32} {σ : Mem}
theorem t_L : ∀ L, L < 321 → (Int32.ofNat L - 5).toInt = (L : Int) - 5 := by decide +kernel
theorem t_i : ∀ i, i < 321 → (Int32.ofNat i).toInt = (i : Int) ∧ (Int32.ofNat i).toNatClampNeg = i := by decide +kernel
theorem t_j : ∀ i, i < 321 → ∀ j, j < 5 → (Int32.ofNat i + Int32.ofInt (Int.ofNat j)).toInt = (i : Int) + j ∧ (Int32.ofNat i + Int32.ofInt (Int.ofNat j)).toNatClampNeg = i + j := by decide +kernel
theorem t_5 : ∀ i, i < 321 → Int32.ofNat i + Int32.ofInt 5 = Int32.ofNat (i + 5) := by decide +kernel
theorem in_j {i L : Nat} (hL : L ≤ 320) (h : i + 5 ≤ L) (j : Int) (h0 : 0 ≤ j) (h4 : j ≤ 4) : vp_in (Int32.ofNat i + Int32.ofInt j) L := by
  obtain ⟨q, rfl⟩ := Int.eq_ofNat_of_zero_le h0
  obtain ⟨a, b⟩ := t_j i (by omega) q (by omega)
  intro hq
  rcases hq with hq | hq
  · have := Int32.lt_iff_toInt_lt.mp hq
    rw [show (Int32.ofNat i + Int32.ofInt (q : Int)).toInt = (i : Int) + q from a] at this
    have z : (0 : Int32).toInt = 0 := rfl
    omega
  · rw [show (Int32.ofNat i + Int32.ofInt (q : Int)).toNatClampNeg = i + q from b] at hq
    omega
theorem in_0 {i L : Nat} (hL : L ≤ 320) (h : i + 5 ≤ L) : vp_in (Int32.ofNat i) L := by
  obtain ⟨a, b⟩ := t_i i (by omega)
  intro hq
  rcases hq with hq | hq
  · have := Int32.lt_iff_toInt_lt.mp hq
    rw [a] at this
    have z : (0 : Int32).toInt = 0 := rfl
    omega
  · rw [b] at hq
    omega
set_option maxHeartbeats 4000000 in
set_option maxRecDepth 100000 in
theorem law_switch {x y : Int32} (C : CxW E n0 p s m args meth c RL wsL_law cL_law 4 ret) (hX : va_X b L xs s s.heap) (hbl : b < n0) (hin : ∀ j : Int, 1 ≤ j → j ≤ 4 → vp_in (x + Int32.ofInt j) L) (hk : k ≤ room_1.cells ∧ n ≤ room_1.slots) (hI : Inv σ) (kk : ∀ τ : Mem, Inv τ → JW E n0 p l e room_1 s m args below meth c Qf 4 k n 1363 (lvL E b x) [] τ) : JW E n0 p l e room_1 s m args below meth c Qf 4 k n 32 (lvL E b x) [.int y] σ := by
  rcases (show y.toInt < 0 ∨ 38 < y.toInt ∨ (0 ≤ y.toInt ∧ y.toInt < 10) ∨ (10 ≤ y.toInt ∧ y.toInt < 20) ∨ (20 ≤ y.toInt ∧ y.toInt < 30) ∨ (30 ≤ y.toInt ∧ y.toInt < 39) by omega) with h9 | h9 | h8 | h8 | h8 | h8
  · exact w_tabOut C 1363 dL_law_32 (Or.inl h9) (by decide) (kk σ hI)
  · exact w_tabOut C 1363 dL_law_32 (Or.inr h9) (by decide) (kk σ hI)
  · rcases (show y.toInt = 0 ∨ y.toInt = 1 ∨ y.toInt = 2 ∨ y.toInt = 3 ∨ y.toInt = 4 ∨ y.toInt = 5 ∨ y.toInt = 6 ∨ y.toInt = 7 ∨ y.toInt = 8 ∨ y.toInt = 9 by omega) with h9 | h9 | h9 | h9 | h9 | h9 | h9 | h9 | h9 | h9
    · exact w_tabIn (off := 172) C 0 204 dL_law_32 h9 (by decide) (by decide) (by decide +kernel) (by decide) (ca_feed C hX hbl hin hk hI kk)
    · exact w_tabIn (off := 195) C 1 227 dL_law_32 h9 (by decide) (by decide) (by decide +kernel) (by decide) (ca_end C hX hbl hin hk hI kk)
    · exact w_tabIn (off := 218) C 2 250 dL_law_32 h9 (by decide) (by decide) (by decide +kernel) (by decide) (ca_text C hX hbl hin hk hI kk)
    · exact w_tabIn (off := 231) C 3 263 dL_law_32 h9 (by decide) (by decide) (by decide +kernel) (by decide) (ca_fault C hX hbl hin hk hI kk)
    · exact w_tabIn (off := 244) C 4 276 dL_law_32 h9 (by decide) (by decide) (by decide +kernel) (by decide) (ca_rule C hX hbl hin hk hI kk)
    · exact w_tabIn (off := 267) C 5 299 dL_law_32 h9 (by decide) (by decide) (by decide +kernel) (by decide) (ca_heir C hX hbl hin hk hI kk)
    · exact w_tabIn (off := 300) C 6 332 dL_law_32 h9 (by decide) (by decide) (by decide +kernel) (by decide) (ca_line C hX hbl hin hk hI kk)
    · exact w_tabIn (off := 323) C 7 355 dL_law_32 h9 (by decide) (by decide) (by decide +kernel) (by decide) (ca_alter C hX hbl hin hk hI kk)
    · exact w_tabIn (off := 366) C 8 398 dL_law_32 h9 (by decide) (by decide) (by decide +kernel) (by decide) (ca_lumbago C hX hbl hin hk hI kk)
    · exact w_tabIn (off := 389) C 9 421 dL_law_32 h9 (by decide) (by decide) (by decide +kernel) (by decide) (ca_works C hX hbl hin hk hI kk)
  · rcases (show y.toInt = 10 ∨ y.toInt = 11 ∨ y.toInt = 12 ∨ y.toInt = 13 ∨ y.toInt = 14 ∨ y.toInt = 15 ∨ y.toInt = 16 ∨ y.toInt = 17 ∨ y.toInt = 18 ∨ y.toInt = 19 by omega) with h9 | h9 | h9 | h9 | h9 | h9 | h9 | h9 | h9 | h9
    · exact w_tabIn (off := 412) C 10 444 dL_law_32 h9 (by decide) (by decide) (by decide +kernel) (by decide) (ca_change C hX hbl hin hk hI kk)
    · exact w_tabIn (off := 445) C 11 477 dL_law_32 h9 (by decide) (by decide) (by decide +kernel) (by decide) (ca_bear C hX hbl hin hk hI kk)
    · exact w_tabIn (off := 488) C 12 520 dL_law_32 h9 (by decide) (by decide) (by decide +kernel) (by decide) (ca_reigns C hX hbl hin hk hI kk)
    · exact w_tabIn (off := 511) C 13 543 dL_law_32 h9 (by decide) (by decide) (by decide +kernel) (by decide) (ca_runs C hX hbl hin hk hI kk)
    · exact w_tabIn (off := 544) C 14 576 dL_law_32 h9 (by decide) (by decide) (by decide +kernel) (by decide) (ca_ahead C hX hbl hin hk hI kk)
    · exact w_tabIn (off := 587) C 15 619 dL_law_32 h9 (by decide) (by decide) (by decide +kernel) (by decide) (ca_soonest C hX hbl hin hk hI kk)
    · exact w_tabIn (off := 610) C 16 642 dL_law_32 h9 (by decide) (by decide) (by decide +kernel) (by decide) (ca_again C hX hbl hin hk hI kk)
    · exact w_tabIn (off := 623) C 17 655 dL_law_32 h9 (by decide) (by decide) (by decide +kernel) (by decide) (ca_ruins C hX hbl hin hk hI kk)
    · exact w_tabIn (off := 636) C 18 668 dL_law_32 h9 (by decide) (by decide) (by decide +kernel) (by decide) (ca_need C hX hbl hin hk hI kk)
    · exact w_tabIn (off := 659) C 19 691 dL_law_32 h9 (by decide) (by decide) (by decide +kernel) (by decide) (ca_order C hX hbl hin hk hI kk)
  · rcases (show y.toInt = 20 ∨ y.toInt = 21 ∨ y.toInt = 22 ∨ y.toInt = 23 ∨ y.toInt = 24 ∨ y.toInt = 25 ∨ y.toInt = 26 ∨ y.toInt = 27 ∨ y.toInt = 28 ∨ y.toInt = 29 by omega) with h9 | h9 | h9 | h9 | h9 | h9 | h9 | h9 | h9 | h9
    · exact w_tabIn (off := 692) C 20 724 dL_law_32 h9 (by decide) (by decide) (by decide +kernel) (by decide) (ca_stool C hX hbl hin hk hI kk)
    · exact w_tabIn (off := 725) C 21 757 dL_law_32 h9 (by decide) (by decide) (by decide +kernel) (by decide) (ca_term C hX hbl hin hk hI kk)
    · exact w_tabIn (off := 768) C 22 800 dL_law_32 h9 (by decide) (by decide) (by decide +kernel) (by decide) (ca_ache C hX hbl hin hk hI kk)
    · exact w_tabIn (off := 801) C 23 833 dL_law_32 h9 (by decide) (by decide) (by decide +kernel) (by decide) (ca_builder C hX hbl hin hk hI kk)
    · exact w_tabIn (off := 834) C 24 866 dL_law_32 h9 (by decide) (by decide) (by decide +kernel) (by decide) (ca_luck C hX hbl hin hk hI kk)
    · exact w_tabIn (off := 888) C 25 920 dL_law_32 h9 (by decide) (by decide) (by decide +kernel) (by decide) (ca_mean C hX hbl hin hk hI kk)
    · exact w_tabIn (off := 932) C 26 964 dL_law_32 h9 (by decide) (by decide) (by decide +kernel) (by decide) (ca_see C hX hbl hin hk hI kk)
    · exact w_tabIn (off := 965) C 27 997 dL_law_32 h9 (by decide) (by decide) (by decide +kernel) (by decide) (ca_forget C hX hbl hin hk hI kk)
    · exact w_tabIn (off := 988) C 28 1020 dL_law_32 h9 (by decide) (by decide) (by decide +kernel) (by decide) (ca_kinds C hX hbl hin hk hI kk)
    · exact w_tabIn (off := 1011) C 29 1043 dL_law_32 h9 (by decide) (by decide) (by decide +kernel) (by decide) (ca_springs C hX hbl hin hk hI kk)
  · rcases (show y.toInt = 30 ∨ y.toInt = 31 ∨ y.toInt = 32 ∨ y.toInt = 33 ∨ y.toInt = 34 ∨ y.toInt = 35 ∨ y.toInt = 36 ∨ y.toInt = 37 ∨ y.toInt = 38 by omega) with h9 | h9 | h9 | h9 | h9 | h9 | h9 | h9 | h9
    · exact w_tabIn (off := 1034) C 30 1066 dL_law_32 h9 (by decide) (by decide) (by decide +kernel) (by decide) (ca_ask C hX hbl hin hk hI kk)
    · exact w_tabIn (off := 1067) C 31 1099 dL_law_32 h9 (by decide) (by decide) (by decide +kernel) (by decide) (ca_drift C hX hbl hin hk hI kk)
    · exact w_tabIn (off := 1110) C 32 1142 dL_law_32 h9 (by decide) (by decide) (by decide +kernel) (by decide) (ca_keep C hX hbl hin hk hI kk)
    · exact w_tabIn (off := 1133) C 33 1165 dL_law_32 h9 (by decide) (by decide) (by decide +kernel) (by decide) (ca_back C hX hbl hin hk hI kk)
    · exact w_tabIn (off := 1156) C 34 1188 dL_law_32 h9 (by decide) (by decide) (by decide +kernel) (by decide) (ca_sheet C hX hbl hin hk hI kk)
    · exact w_tabIn (off := 1199) C 35 1231 dL_law_32 h9 (by decide) (by decide) (by decide +kernel) (by decide) (ca_lay C hX hbl hin hk hI kk)
    · exact w_tabIn (off := 1242) C 36 1274 dL_law_32 h9 (by decide) (by decide) (by decide +kernel) (by decide) (ca_read C hX hbl hin hk hI kk)
    · exact w_tabIn (off := 1295) C 37 1327 dL_law_32 h9 (by decide) (by decide) (by decide +kernel) (by decide) (ca_torn C hX hbl hin hk hI kk)
    · exact w_tabIn (off := 1308) C 38 1340 dL_law_32 h9 (by decide) (by decide) (by decide +kernel) (by decide) (ca_count C hX hbl hin hk hI kk)
theorem law_loop (C : CxW E n0 p s m args meth c RL wsL_law cL_law 4 ret) (hX : va_X b L xs s s.heap) (hbl : b < n0) (hL : L ≤ 320) (hk : k ≤ room_1.cells ∧ n ≤ room_1.slots) (hE : ∀ (x : Int32) (τ : Mem), JW E n0 p l e room_1 s m args below meth c Qf 4 k n 1369 (lvL E b x) [] τ) :
    ∀ (f i : Nat) (σ : Mem), L < i + f → i ≤ L → Inv σ → JW E n0 p l e room_1 s m args below meth c Qf 4 k n 18 (lvL E b (Int32.ofNat i)) [] σ := by
  intro f
  induction f with
  | zero => intro i σ h1 h2; omega
  | succ f ih =>
    intro i σ h1 h2 hI
    refine w_iload C 3 dL_law_18 rfl 0 rfl ?_
    refine w_aload C 0 dL_law_19 rfl 3 rfl ?_
    refine w_slen C hX hbl dL_law_20 ?_
    refine w_iconst (v := 5) C dL_law_21 (by decide) ?_
    refine w_isub C dL_law_22 ?_
    refine w_icmp_gt C 1369 dL_law_23 (by decide) (fun _ => hE _ σ) (fun h9 => ?_)
    have h5 : i + 5 ≤ L := by
      have a := t_L L (by omega)
      have b := (t_i i (by omega)).1
      have q := Int32.not_lt.mp h9
      have q := Int32.le_iff_toInt_le.mp q
      rw [a, b] at q
      omega
    refine w_aload C 0 dL_law_26 rfl 3 rfl ?_
    refine w_iload C 3 dL_law_27 rfl 0 rfl ?_
    refine w_sld C hX hbl (in_0 hL h5) dL_law_28 ?_
    refine w_bipush (v := 63) C dL_law_29 (by decide) ?_
    refine w_iand C dL_law_31 ?_
    refine law_switch C hX hbl (fun j j1 j4 => in_j hL h5 j (by omega) j4) hk hI (fun τ hT => ?_)
    refine w_iinc (v := Int32.ofNat (i + 5)) (lv' := lvL E b (Int32.ofNat (i + 5))) C 3 dL_law_1363 0 rfl (t_5 i (by omega)) (by decide) rfl ?_
    refine w_goto C 18 dL_law_1366 (by decide) ?_
    exact ih (i + 5) τ (by omega) h5 hT
end LAWL
