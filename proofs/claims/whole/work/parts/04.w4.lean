def wp_X4_push (a1 : Int32) (σ : Mem) (Q : Int32 → Mem → Prop) : Prop :=
  ((σ.1 1 1) < (160 : Int32) → vp_in (σ.1 1 1) 160 ∧ (∀ σ2 : Mem, σ2 = st1 σ 2 ((σ.1 1 1)).toNatClampNeg (vp_nar .byte (a1).toInt8.toInt32) → ∀ σ3 : Mem, σ3 = st1 σ2 1 1 ((σ2.1 1 1) + (1 : Int32)) → Q (1 : Int32) σ3)) ∧ (¬ (σ.1 1 1) < (160 : Int32) → Q (0 : Int32) σ)
theorem in_X4_push_X4 : ∀ w ∈ wsX40, w ∈ wsX4_push := fun _ h => List.mem_cons_of_mem _ (List.mem_append_right _ h)
def rmX4_push : Room := { frames := 0, cells := 0, slots := 0, locals := 0 }
theorem hdX4_push : yX4_push.cls = RX4 ∧ yX4_push.cls ≠ "java/lang/invoke/MethodHandle" ∧ yX4_push.cls ≠ "java/lang/invoke/VarHandle" ∧ (parseMethodDescriptor yX4_push.desc).map (fun d => d.parameters.length) = some 1 := by decide +kernel
set_option maxHeartbeats 4000000 in
set_option maxRecDepth 100000 in
theorem c_X4_push {l : Launch} {E : EE} {a1 : Int32}  {σ : Mem} {Q : Int32 → Mem → Prop} (h : wp_X4_push a1 σ Q) : CtI l yX4_push wsX4_push rmX4_push E [.ref (eA E 1), .int a1] σ Q := by
  refine metI (cc := cX4_push) (nL := 2) (ret := (some .boolean)) (lv := [(0, .ref (eA E 1)), (1, .int a1)]) (by decide) rfl (Nat.le_of_ble_eq_true rfl) rfl ?_
  intro p e s m args below meth c C
  unfold wp_X4_push at h
  refine j_aload_n C 0 dX4_push_0 rfl 0 rfl ?_
  refine j_getI C 1 1 rfl rfl rfl in_X4_push_X4 (by decide) (by decide +kernel) dX4_push_1 ?_
  refine j_sipush (v := (160 : Int32)) C dX4_push_4 (by decide) ?_
  refine j_icmp_lt C 12 dX4_push_7 (by decide) (fun c1 => ?_) (fun c1 => ?_)
  · replace h := h.1 c1
    refine j_aload_n C 0 dX4_push_12 rfl 0 rfl ?_
    refine j_getR C 2 1 0 rfl rfl rfl in_X4_push_X4 (by decide) (by decide +kernel) dX4_push_13 ?_
    refine j_aload_n C 0 dX4_push_16 rfl 0 rfl ?_
    refine j_getI C 1 1 rfl rfl rfl in_X4_push_X4 (by decide) (by decide +kernel) dX4_push_17 ?_
    refine j_iload_n C 1 dX4_push_20 rfl 1 rfl ?_
    refine j_i2b C dX4_push_21 rfl ?_
    refine j_bast C 2 rfl dX4_push_22 h.1 ?_
    replace h := h.2
    refine j_mem (fun σ2 eσ2 => ?_)
    replace h := h σ2 eσ2
    refine j_aload_n C 0 dX4_push_23 rfl 0 rfl ?_
    refine j_dup C dX4_push_24 rfl ?_
    refine j_getI C 1 1 rfl rfl rfl in_X4_push_X4 (by decide) (by decide +kernel) dX4_push_25 ?_
    refine j_iconst (v := (1 : Int32)) C dX4_push_28 (by decide) ?_
    refine j_iadd C dX4_push_29 ?_
    refine j_put C 1 1 rfl rfl rfl in_X4_push_X4 tyX4 tyX4_ok nmX4 (by decide) (by decide +kernel) rfl rfl rfl rfl dX4_push_30 ?_
    refine j_mem (fun σ3 eσ3 => ?_)
    replace h := h σ3 eσ3
    refine j_iconst (v := (1 : Int32)) C dX4_push_33 (by decide) ?_
    exact j_zret C dX4_push_34 (Or.inr rfl) h
  · replace h := h.2 c1
    refine j_iconst (v := (0 : Int32)) C dX4_push_10 (by decide) ?_
    exact j_zret C dX4_push_11 (Or.inl rfl) h
def wp_X4_startAnew (σ : Mem) (Q : Mem → Prop) : Prop :=
  ∀ (P49 : Int32 → Mem → Prop),
  (∀ (x1 : Int32) (σ : Mem), (((6 : Int32) ≤ x1 → Q σ) ∧ (¬ (6 : Int32) ≤ x1 → vp_in x1 6 ∧ (∀ σ2 : Mem, σ2 = st1 σ 4 (x1).toNatClampNeg (vp_nar .boolean (0 : Int32)) → ∀ v3 : Int32, v3 = x1 + (1 : Int32) → P49 v3 σ2))) → P49 x1 σ) →
  wp_X0_empty 5 σ (fun σ4 => ∀ σ5 : Mem, σ5 = st1 σ4 1 3 (0 : Int32) → ∀ σ6 : Mem, σ6 = st1 σ5 1 4 (0 : Int32) → ∀ σ7 : Mem, σ7 = st1 σ6 1 5 (0 : Int32) → ∀ σ8 : Mem, σ8 = st1 σ7 1 8 (0 : Int32) → ∀ σ9 : Mem, σ9 = st1 σ8 1 13 (0 : Int32) → ∀ σ10 : Mem, σ10 = st1 σ9 1 14 (0 : Int32) → ∀ σ11 : Mem, σ11 = st1 σ10 1 15 (0 : Int32) → ∀ σ12 : Mem, σ12 = st1 σ11 1 16 (0 : Int32) → P49 (0 : Int32) σ12)
theorem in_X4_startAnew_X4 : ∀ w ∈ wsX40, w ∈ wsX4_startAnew := fun _ h => List.mem_cons_of_mem _ (List.mem_append_left _ (List.mem_append_right _ h))
def rmX4_startAnew : Room := { frames := 1, cells := 0, slots := 0, locals := 20 }
theorem hdX4_startAnew : yX4_startAnew.cls = RX4 ∧ yX4_startAnew.cls ≠ "java/lang/invoke/MethodHandle" ∧ yX4_startAnew.cls ≠ "java/lang/invoke/VarHandle" ∧ (parseMethodDescriptor yX4_startAnew.desc).map (fun d => d.parameters.length) = some 0 := by decide +kernel
set_option maxHeartbeats 4000000 in
set_option maxRecDepth 100000 in
theorem c_X4_startAnew {l : Launch} {E : EE}   {σ : Mem} {Q : Mem → Prop} (h : wp_X4_startAnew  σ Q) : CtV l yX4_startAnew wsX4_startAnew rmX4_startAnew E [.ref (eA E 1)] σ Q := by
  refine metV (cc := cX4_startAnew) (nL := 2) (ret := none) (lv := [(0, .ref (eA E 1))]) (by decide) rfl (Nat.le_of_ble_eq_true rfl) rfl ?_
  intro p e s m args below meth c C
  unfold wp_X4_startAnew at h
  replace h := h (fun (x1 : Int32) (σ : Mem) => J E p l e rmX4_startAnew s m args below meth c (QV E below args s Q) 2 49 [(0, .ref (eA E 1)), (1, .int x1)] [] σ) (by
    intro x1 σ h
    refine j_iload_n C 1 dX4_startAnew_49 rfl 1 rfl ?_
    refine j_bipush (v := (6 : Int32)) C dX4_startAnew_50 (by decide) ?_
    refine j_icmp_ge C 68 dX4_startAnew_52 (by decide) (fun c1 => ?_) (fun c1 => ?_)
    · replace h := h.1 c1
      exact j_vret C dX4_startAnew_68 h
    · replace h := h.2 c1
      refine j_aload_n C 0 dX4_startAnew_55 rfl 0 rfl ?_
      refine j_getR C 4 1 12 rfl rfl rfl in_X4_startAnew_X4 (by decide) (by decide +kernel) dX4_startAnew_56 ?_
      refine j_iload_n C 1 dX4_startAnew_59 rfl 1 rfl ?_
      refine j_iconst (v := (0 : Int32)) C dX4_startAnew_60 (by decide) ?_
      refine j_zast C 4 rfl dX4_startAnew_61 h.1 ?_
      replace h := h.2
      refine j_mem (fun σ2 eσ2 => ?_)
      replace h := h σ2 eσ2
      obtain ⟨v3, ev3⟩ : ∃ y : Int32, y = x1 + (1 : Int32) := ⟨_, rfl⟩
      replace h := h v3 ev3
      refine j_iinc (v := v3) (lv' := [(1, .int v3), (0, .ref (eA E 1))]) C 1 dX4_startAnew_62 1 rfl (by rw [ev3]; rfl) (by decide) rfl ?_
      refine j_goto C 49 dX4_startAnew_65 (by decide) ?_
      exact j_sub (lv' := [(0, .ref (eA E 1)), (1, .int v3)]) [1, 0] rfl h)
  refine j_aload_n C 0 dX4_startAnew_0 rfl 0 rfl ?_
  refine j_getR C 5 1 2 rfl rfl rfl in_X4_startAnew_X4 (by decide) (by decide +kernel) dX4_startAnew_1 ?_
  refine j_callVV (As := []) (rest := []) C 5 (c_X0_empty (rfl) h) (cwV 0 C.2.2.2.2.2.1 gX4_startAnew_X0_empty rfl rfl rfl hdX0_empty ⟨Nat.le_of_ble_eq_true rfl, Nat.le_of_ble_eq_true rfl⟩) (shp_dyn (rfl)) rfl rfl rfl (Nat.le_of_ble_eq_true rfl) dX4_startAnew_4 (fun σ4 h => ?_)
  refine j_aload_n C 0 dX4_startAnew_7 rfl 0 rfl ?_
  refine j_iconst (v := (0 : Int32)) C dX4_startAnew_8 (by decide) ?_
  refine j_put C 1 3 rfl rfl rfl in_X4_startAnew_X4 tyX4 tyX4_ok nmX4 (by decide) (by decide +kernel) rfl rfl rfl rfl dX4_startAnew_9 ?_
  refine j_mem (fun σ5 eσ5 => ?_)
  replace h := h σ5 eσ5
  refine j_aload_n C 0 dX4_startAnew_12 rfl 0 rfl ?_
  refine j_iconst (v := (0 : Int32)) C dX4_startAnew_13 (by decide) ?_
  refine j_put C 1 4 rfl rfl rfl in_X4_startAnew_X4 tyX4 tyX4_ok nmX4 (by decide) (by decide +kernel) rfl rfl rfl rfl dX4_startAnew_14 ?_
  refine j_mem (fun σ6 eσ6 => ?_)
  replace h := h σ6 eσ6
  refine j_aload_n C 0 dX4_startAnew_17 rfl 0 rfl ?_
  refine j_iconst (v := (0 : Int32)) C dX4_startAnew_18 (by decide) ?_
  refine j_put C 1 5 rfl rfl rfl in_X4_startAnew_X4 tyX4 tyX4_ok nmX4 (by decide) (by decide +kernel) rfl rfl rfl rfl dX4_startAnew_19 ?_
  refine j_mem (fun σ7 eσ7 => ?_)
  replace h := h σ7 eσ7
  refine j_aload_n C 0 dX4_startAnew_22 rfl 0 rfl ?_
  refine j_iconst (v := (0 : Int32)) C dX4_startAnew_23 (by decide) ?_
  refine j_put C 1 8 rfl rfl rfl in_X4_startAnew_X4 tyX4 tyX4_ok nmX4 (by decide) (by decide +kernel) rfl rfl rfl rfl dX4_startAnew_24 ?_
  refine j_mem (fun σ8 eσ8 => ?_)
  replace h := h σ8 eσ8
  refine j_aload_n C 0 dX4_startAnew_27 rfl 0 rfl ?_
  refine j_iconst (v := (0 : Int32)) C dX4_startAnew_28 (by decide) ?_
  refine j_put C 1 13 rfl rfl rfl in_X4_startAnew_X4 tyX4 tyX4_ok nmX4 (by decide) (by decide +kernel) rfl rfl rfl rfl dX4_startAnew_29 ?_
  refine j_mem (fun σ9 eσ9 => ?_)
  replace h := h σ9 eσ9
  refine j_aload_n C 0 dX4_startAnew_32 rfl 0 rfl ?_
  refine j_iconst (v := (0 : Int32)) C dX4_startAnew_33 (by decide) ?_
  refine j_put C 1 14 rfl rfl rfl in_X4_startAnew_X4 tyX4 tyX4_ok nmX4 (by decide) (by decide +kernel) rfl rfl rfl rfl dX4_startAnew_34 ?_
  refine j_mem (fun σ10 eσ10 => ?_)
  replace h := h σ10 eσ10
  refine j_aload_n C 0 dX4_startAnew_37 rfl 0 rfl ?_
  refine j_iconst (v := (0 : Int32)) C dX4_startAnew_38 (by decide) ?_
  refine j_put C 1 15 rfl rfl rfl in_X4_startAnew_X4 tyX4 tyX4_ok nmX4 (by decide) (by decide +kernel) rfl rfl rfl rfl dX4_startAnew_39 ?_
  refine j_mem (fun σ11 eσ11 => ?_)
  replace h := h σ11 eσ11
  refine j_aload_n C 0 dX4_startAnew_42 rfl 0 rfl ?_
  refine j_iconst (v := (0 : Int32)) C dX4_startAnew_43 (by decide) ?_
  refine j_put C 1 16 rfl rfl rfl in_X4_startAnew_X4 tyX4 tyX4_ok nmX4 (by decide) (by decide +kernel) rfl rfl rfl rfl dX4_startAnew_44 ?_
  refine j_mem (fun σ12 eσ12 => ?_)
  replace h := h σ12 eσ12
  refine j_iconst (v := (0 : Int32)) C dX4_startAnew_47 (by decide) ?_
  refine j_istore_n (lv' := [(1, .int (0 : Int32)), (0, .ref (eA E 1))]) C 1 dX4_startAnew_48 rfl (by decide) rfl ?_
  exact j_sub (lv' := [(0, .ref (eA E 1)), (1, .int (0 : Int32))]) [1, 0] rfl h
def wp_X4_isLetter (a0 : Int32) (σ : Mem) (Q : Int32 → Mem → Prop) : Prop :=
  (a0 < (97 : Int32) → Q (0 : Int32) σ) ∧ (¬ a0 < (97 : Int32) → ((122 : Int32) < a0 → Q (0 : Int32) σ) ∧ (¬ (122 : Int32) < a0 → Q (1 : Int32) σ))
def rmX4_isLetter : Room := { frames := 0, cells := 0, slots := 0, locals := 0 }
theorem hdX4_isLetter : yX4_isLetter.cls = RX4 ∧ yX4_isLetter.cls ≠ "java/lang/invoke/MethodHandle" ∧ yX4_isLetter.cls ≠ "java/lang/invoke/VarHandle" ∧ (parseMethodDescriptor yX4_isLetter.desc).map (fun d => d.parameters.length) = some 1 := by decide +kernel
set_option maxHeartbeats 4000000 in
set_option maxRecDepth 100000 in
theorem c_X4_isLetter {l : Launch} {E : EE} {a0 : Int32}  {σ : Mem} {Q : Int32 → Mem → Prop} (h : wp_X4_isLetter a0 σ Q) : CtI l yX4_isLetter wsX4_isLetter rmX4_isLetter E [.int a0] σ Q := by
  refine metI (cc := cX4_isLetter) (nL := 1) (ret := (some .boolean)) (lv := [(0, .int a0)]) (by decide) rfl (Nat.le_of_ble_eq_true rfl) rfl ?_
  intro p e s m args below meth c C
  unfold wp_X4_isLetter at h
  refine j_iload_n C 0 dX4_isLetter_0 rfl 0 rfl ?_
  refine j_bipush (v := (97 : Int32)) C dX4_isLetter_1 (by decide) ?_
  refine j_icmp_lt C 16 dX4_isLetter_3 (by decide) (fun c1 => ?_) (fun c1 => ?_)
  · replace h := h.1 c1
    refine j_iconst (v := (0 : Int32)) C dX4_isLetter_16 (by decide) ?_
    exact j_zret C dX4_isLetter_17 (Or.inl rfl) h
  · replace h := h.2 c1
    refine j_iload_n C 0 dX4_isLetter_6 rfl 0 rfl ?_
    refine j_bipush (v := (122 : Int32)) C dX4_isLetter_7 (by decide) ?_
    refine j_icmp_gt C 16 dX4_isLetter_9 (by decide) (fun c2 => ?_) (fun c2 => ?_)
    · replace h := h.1 c2
      refine j_iconst (v := (0 : Int32)) C dX4_isLetter_16 (by decide) ?_
      exact j_zret C dX4_isLetter_17 (Or.inl rfl) h
    · replace h := h.2 c2
      refine j_iconst (v := (1 : Int32)) C dX4_isLetter_12 (by decide) ?_
      refine j_goto C 17 dX4_isLetter_13 (by decide) ?_
      exact j_zret C dX4_isLetter_17 (Or.inr rfl) h
def wp_X4_isFigure (a0 : Int32) (σ : Mem) (Q : Int32 → Mem → Prop) : Prop :=
  (a0 < (48 : Int32) → Q (0 : Int32) σ) ∧ (¬ a0 < (48 : Int32) → ((57 : Int32) < a0 → Q (0 : Int32) σ) ∧ (¬ (57 : Int32) < a0 → Q (1 : Int32) σ))
def rmX4_isFigure : Room := { frames := 0, cells := 0, slots := 0, locals := 0 }
theorem hdX4_isFigure : yX4_isFigure.cls = RX4 ∧ yX4_isFigure.cls ≠ "java/lang/invoke/MethodHandle" ∧ yX4_isFigure.cls ≠ "java/lang/invoke/VarHandle" ∧ (parseMethodDescriptor yX4_isFigure.desc).map (fun d => d.parameters.length) = some 1 := by decide +kernel
set_option maxHeartbeats 4000000 in
set_option maxRecDepth 100000 in
theorem c_X4_isFigure {l : Launch} {E : EE} {a0 : Int32}  {σ : Mem} {Q : Int32 → Mem → Prop} (h : wp_X4_isFigure a0 σ Q) : CtI l yX4_isFigure wsX4_isFigure rmX4_isFigure E [.int a0] σ Q := by
  refine metI (cc := cX4_isFigure) (nL := 1) (ret := (some .boolean)) (lv := [(0, .int a0)]) (by decide) rfl (Nat.le_of_ble_eq_true rfl) rfl ?_
  intro p e s m args below meth c C
  unfold wp_X4_isFigure at h
  refine j_iload_n C 0 dX4_isFigure_0 rfl 0 rfl ?_
  refine j_bipush (v := (48 : Int32)) C dX4_isFigure_1 (by decide) ?_
  refine j_icmp_lt C 16 dX4_isFigure_3 (by decide) (fun c1 => ?_) (fun c1 => ?_)
  · replace h := h.1 c1
    refine j_iconst (v := (0 : Int32)) C dX4_isFigure_16 (by decide) ?_
    exact j_zret C dX4_isFigure_17 (Or.inl rfl) h
  · replace h := h.2 c1
    refine j_iload_n C 0 dX4_isFigure_6 rfl 0 rfl ?_
    refine j_bipush (v := (57 : Int32)) C dX4_isFigure_7 (by decide) ?_
    refine j_icmp_gt C 16 dX4_isFigure_9 (by decide) (fun c2 => ?_) (fun c2 => ?_)
    · replace h := h.1 c2
      refine j_iconst (v := (0 : Int32)) C dX4_isFigure_16 (by decide) ?_
      exact j_zret C dX4_isFigure_17 (Or.inl rfl) h
    · replace h := h.2 c2
      refine j_iconst (v := (1 : Int32)) C dX4_isFigure_12 (by decide) ?_
      refine j_goto C 17 dX4_isFigure_13 (by decide) ?_
      exact j_zret C dX4_isFigure_17 (Or.inr rfl) h
def wp_X4_fail (a1 : Int32) (a2 : Int32) (σ : Mem) (Q : Int32 → Mem → Prop) : Prop :=
  ∀ σ1 : Mem, σ1 = st1 σ 1 4 a1 → ∀ σ2 : Mem, σ2 = st1 σ1 1 5 a2 → Q (0 : Int32) σ2
theorem in_X4_fail_X4 : ∀ w ∈ wsX40, w ∈ wsX4_fail := fun _ h => List.mem_cons_of_mem _ (List.mem_append_right _ h)
def rmX4_fail : Room := { frames := 0, cells := 0, slots := 0, locals := 0 }
theorem hdX4_fail : yX4_fail.cls = RX4 ∧ yX4_fail.cls ≠ "java/lang/invoke/MethodHandle" ∧ yX4_fail.cls ≠ "java/lang/invoke/VarHandle" ∧ (parseMethodDescriptor yX4_fail.desc).map (fun d => d.parameters.length) = some 2 := by decide +kernel
set_option maxHeartbeats 4000000 in
set_option maxRecDepth 100000 in
theorem c_X4_fail {l : Launch} {E : EE} {a1 : Int32} {a2 : Int32}  {σ : Mem} {Q : Int32 → Mem → Prop} (h : wp_X4_fail a1 a2 σ Q) : CtI l yX4_fail wsX4_fail rmX4_fail E [.ref (eA E 1), .int a1, .int a2] σ Q := by
  refine metI (cc := cX4_fail) (nL := 3) (ret := (some .boolean)) (lv := [(0, .ref (eA E 1)), (1, .int a1), (2, .int a2)]) (by decide) rfl (Nat.le_of_ble_eq_true rfl) rfl ?_
  intro p e s m args below meth c C
  unfold wp_X4_fail at h
  refine j_aload_n C 0 dX4_fail_0 rfl 0 rfl ?_
  refine j_iload_n C 1 dX4_fail_1 rfl 1 rfl ?_
  refine j_put C 1 4 rfl rfl rfl in_X4_fail_X4 tyX4 tyX4_ok nmX4 (by decide) (by decide +kernel) rfl rfl rfl rfl dX4_fail_2 ?_
  refine j_mem (fun σ1 eσ1 => ?_)
  replace h := h σ1 eσ1
  refine j_aload_n C 0 dX4_fail_5 rfl 0 rfl ?_
  refine j_iload_n C 2 dX4_fail_6 rfl 2 rfl ?_
  refine j_put C 1 5 rfl rfl rfl in_X4_fail_X4 tyX4 tyX4_ok nmX4 (by decide) (by decide +kernel) rfl rfl rfl rfl dX4_fail_7 ?_
  refine j_mem (fun σ2 eσ2 => ?_)
  replace h := h σ2 eσ2
  refine j_iconst (v := (0 : Int32)) C dX4_fail_10 (by decide) ?_
  exact j_zret C dX4_fail_11 (Or.inl rfl) h
def wp_X4_takeNumber (σ : Mem) (Q : Int32 → Mem → Prop) : Prop :=
  ∀ (P10 : Mem → Prop),
  (∀ (σ : Mem), (((σ.1 1 1) ≤ (σ.1 1 8) → Q (1 : Int32) σ) ∧ (¬ (σ.1 1 1) ≤ (σ.1 1 8) → vp_in (σ.1 1 8) 160 ∧ (wp_X4_isFigure ((σ.1 2 ((σ.1 1 8)).toNatClampNeg)) σ (fun r3 σ2 => (r3 = 0 → Q (1 : Int32) σ2) ∧ (¬ r3 = 0 → (((σ2.1 1 8) - (σ2.1 1 7)) < (2 : Int32) → vp_in (σ2.1 1 8) 160 ∧ (∀ σ6 : Mem, σ6 = st1 σ2 1 9 (((σ2.1 1 9) * (10 : Int32)) + ((σ2.1 2 ((σ2.1 1 8)).toNatClampNeg) - (48 : Int32))) → ∀ σ7 : Mem, σ7 = st1 σ6 1 8 ((σ6.1 1 8) + (1 : Int32)) → P10 σ7)) ∧ (¬ ((σ2.1 1 8) - (σ2.1 1 7)) < (2 : Int32) → wp_X4_fail (1 : Int32) ((σ2.1 1 7)) σ2 (fun r9 σ8 => (r9 = 0 ∨ r9 = 1) ∧ Q r9 σ8))))))) → P10 σ) →
  ∀ σ10 : Mem, σ10 = st1 σ 1 6 (2 : Int32) → ∀ σ11 : Mem, σ11 = st1 σ10 1 9 (0 : Int32) → P10 σ11
theorem in_X4_takeNumber_X4 : ∀ w ∈ wsX40, w ∈ wsX4_takeNumber := fun _ h => List.mem_cons_of_mem _ (List.mem_append_right _ h)
def rmX4_takeNumber : Room := { frames := 1, cells := 0, slots := 0, locals := 22 }
theorem hdX4_takeNumber : yX4_takeNumber.cls = RX4 ∧ yX4_takeNumber.cls ≠ "java/lang/invoke/MethodHandle" ∧ yX4_takeNumber.cls ≠ "java/lang/invoke/VarHandle" ∧ (parseMethodDescriptor yX4_takeNumber.desc).map (fun d => d.parameters.length) = some 0 := by decide +kernel
set_option maxHeartbeats 4000000 in
set_option maxRecDepth 100000 in
theorem c_X4_takeNumber {l : Launch} {E : EE}   {σ : Mem} {Q : Int32 → Mem → Prop} (h : wp_X4_takeNumber  σ Q) : CtI l yX4_takeNumber wsX4_takeNumber rmX4_takeNumber E [.ref (eA E 1)] σ Q := by
  refine metI (cc := cX4_takeNumber) (nL := 1) (ret := (some .boolean)) (lv := [(0, .ref (eA E 1))]) (by decide) rfl (Nat.le_of_ble_eq_true rfl) rfl ?_
  intro p e s m args below meth c C
  unfold wp_X4_takeNumber at h
  replace h := h (fun (σ : Mem) => J E p l e rmX4_takeNumber s m args below meth c (QI E below args s Q) 1 10 [(0, .ref (eA E 1))] [] σ) (by
    intro σ h
    refine j_aload_n C 0 dX4_takeNumber_10 rfl 0 rfl ?_
    refine j_getI C 1 8 rfl rfl rfl in_X4_takeNumber_X4 (by decide) (by decide +kernel) dX4_takeNumber_11 ?_
    refine j_aload_n C 0 dX4_takeNumber_14 rfl 0 rfl ?_
    refine j_getI C 1 1 rfl rfl rfl in_X4_takeNumber_X4 (by decide) (by decide +kernel) dX4_takeNumber_15 ?_
    refine j_icmp_ge C 96 dX4_takeNumber_18 (by decide) (fun c1 => ?_) (fun c1 => ?_)
    · replace h := h.1 c1
      refine j_iconst (v := (1 : Int32)) C dX4_takeNumber_96 (by decide) ?_
      exact j_zret C dX4_takeNumber_97 (Or.inr rfl) h
    · replace h := h.2 c1
      refine j_aload_n C 0 dX4_takeNumber_21 rfl 0 rfl ?_
      refine j_getR C 2 1 0 rfl rfl rfl in_X4_takeNumber_X4 (by decide) (by decide +kernel) dX4_takeNumber_22 ?_
      refine j_aload_n C 0 dX4_takeNumber_25 rfl 0 rfl ?_
      refine j_getI C 1 8 rfl rfl rfl in_X4_takeNumber_X4 (by decide) (by decide +kernel) dX4_takeNumber_26 ?_
      refine j_bald C 2 rfl dX4_takeNumber_29 h.1 ?_
      replace h := h.2
      refine j_callSI (As := [.int (σ.1 2 ((σ.1 1 8)).toNatClampNeg)]) (rest := []) C (c_X4_isFigure h) (va_cwS 1 C.2.2.2.2.2.1 gX4_takeNumber_X4_isFigure rfl rfl rfl hdX4_isFigure.2 ⟨Nat.le_of_ble_eq_true rfl, Nat.le_of_ble_eq_true rfl⟩) rfl rfl (Nat.le_of_ble_eq_true rfl) dX4_takeNumber_30 (fun r3 σ2 h => ?_)
      refine j_if_eq C 96 dX4_takeNumber_33 (by decide) (fun c4 => ?_) (fun c4 => ?_)
      · replace h := h.1 c4
        refine j_iconst (v := (1 : Int32)) C dX4_takeNumber_96 (by decide) ?_
        exact j_zret C dX4_takeNumber_97 (Or.inr rfl) h
      · replace h := h.2 c4
        refine j_aload_n C 0 dX4_takeNumber_36 rfl 0 rfl ?_
        refine j_getI C 1 8 rfl rfl rfl in_X4_takeNumber_X4 (by decide) (by decide +kernel) dX4_takeNumber_37 ?_
        refine j_aload_n C 0 dX4_takeNumber_40 rfl 0 rfl ?_
        refine j_getI C 1 7 rfl rfl rfl in_X4_takeNumber_X4 (by decide) (by decide +kernel) dX4_takeNumber_41 ?_
        refine j_isub C dX4_takeNumber_44 ?_
        refine j_iconst (v := (2 : Int32)) C dX4_takeNumber_45 (by decide) ?_
        refine j_icmp_lt C 59 dX4_takeNumber_46 (by decide) (fun c5 => ?_) (fun c5 => ?_)
        · replace h := h.1 c5
          refine j_aload_n C 0 dX4_takeNumber_59 rfl 0 rfl ?_
          refine j_aload_n C 0 dX4_takeNumber_60 rfl 0 rfl ?_
          refine j_getI C 1 9 rfl rfl rfl in_X4_takeNumber_X4 (by decide) (by decide +kernel) dX4_takeNumber_61 ?_
          refine j_bipush (v := (10 : Int32)) C dX4_takeNumber_64 (by decide) ?_
          refine j_imul C dX4_takeNumber_66 ?_
          refine j_aload_n C 0 dX4_takeNumber_67 rfl 0 rfl ?_
          refine j_getR C 2 1 0 rfl rfl rfl in_X4_takeNumber_X4 (by decide) (by decide +kernel) dX4_takeNumber_68 ?_
          refine j_aload_n C 0 dX4_takeNumber_71 rfl 0 rfl ?_
          refine j_getI C 1 8 rfl rfl rfl in_X4_takeNumber_X4 (by decide) (by decide +kernel) dX4_takeNumber_72 ?_
          refine j_bald C 2 rfl dX4_takeNumber_75 h.1 ?_
          replace h := h.2
          refine j_bipush (v := (48 : Int32)) C dX4_takeNumber_76 (by decide) ?_
          refine j_isub C dX4_takeNumber_78 ?_
          refine j_iadd C dX4_takeNumber_79 ?_
          refine j_put C 1 9 rfl rfl rfl in_X4_takeNumber_X4 tyX4 tyX4_ok nmX4 (by decide) (by decide +kernel) rfl rfl rfl rfl dX4_takeNumber_80 ?_
          refine j_mem (fun σ6 eσ6 => ?_)
          replace h := h σ6 eσ6
          refine j_aload_n C 0 dX4_takeNumber_83 rfl 0 rfl ?_
          refine j_dup C dX4_takeNumber_84 rfl ?_
          refine j_getI C 1 8 rfl rfl rfl in_X4_takeNumber_X4 (by decide) (by decide +kernel) dX4_takeNumber_85 ?_
          refine j_iconst (v := (1 : Int32)) C dX4_takeNumber_88 (by decide) ?_
          refine j_iadd C dX4_takeNumber_89 ?_
          refine j_put C 1 8 rfl rfl rfl in_X4_takeNumber_X4 tyX4 tyX4_ok nmX4 (by decide) (by decide +kernel) rfl rfl rfl rfl dX4_takeNumber_90 ?_
          refine j_mem (fun σ7 eσ7 => ?_)
          replace h := h σ7 eσ7
          refine j_goto C 10 dX4_takeNumber_93 (by decide) ?_
          exact j_sub (lv' := [(0, .ref (eA E 1))]) [0] rfl h
        · replace h := h.2 c5
          refine j_aload_n C 0 dX4_takeNumber_49 rfl 0 rfl ?_
          refine j_iconst (v := (1 : Int32)) C dX4_takeNumber_50 (by decide) ?_
          refine j_aload_n C 0 dX4_takeNumber_51 rfl 0 rfl ?_
          refine j_getI C 1 7 rfl rfl rfl in_X4_takeNumber_X4 (by decide) (by decide +kernel) dX4_takeNumber_52 ?_
          refine j_callVI (As := [.int (1 : Int32), .int (σ2.1 1 7)]) (rest := []) C 1 (c_X4_fail h) (cwV 2 C.2.2.2.2.2.1 gX4_takeNumber_X4_fail rfl rfl rfl hdX4_fail ⟨Nat.le_of_ble_eq_true rfl, Nat.le_of_ble_eq_true rfl⟩) rfl rfl rfl rfl (Nat.le_of_ble_eq_true rfl) dX4_takeNumber_55 (fun r9 σ8 h => ?_)
          exact j_zret C dX4_takeNumber_58 h.1 h.2)
  refine j_aload_n C 0 dX4_takeNumber_0 rfl 0 rfl ?_
  refine j_iconst (v := (2 : Int32)) C dX4_takeNumber_1 (by decide) ?_
  refine j_put C 1 6 rfl rfl rfl in_X4_takeNumber_X4 tyX4 tyX4_ok nmX4 (by decide) (by decide +kernel) rfl rfl rfl rfl dX4_takeNumber_2 ?_
  refine j_mem (fun σ10 eσ10 => ?_)
  replace h := h σ10 eσ10
  refine j_aload_n C 0 dX4_takeNumber_5 rfl 0 rfl ?_
  refine j_iconst (v := (0 : Int32)) C dX4_takeNumber_6 (by decide) ?_
  refine j_put C 1 9 rfl rfl rfl in_X4_takeNumber_X4 tyX4 tyX4_ok nmX4 (by decide) (by decide +kernel) rfl rfl rfl rfl dX4_takeNumber_7 ?_
  refine j_mem (fun σ11 eσ11 => ?_)
  replace h := h σ11 eσ11
  exact j_sub (lv' := [(0, .ref (eA E 1))]) [0] rfl h
def wp_X4_take (σ : Mem) (Q : Int32 → Mem → Prop) : Prop :=
  ∀ (P0 : Mem → Prop) (P38 : Mem → Prop) (P109 : Mem → Prop),
  (∀ (σ : Mem), (((σ.1 1 1) ≤ (σ.1 1 8) → P38 σ) ∧ (¬ (σ.1 1 1) ≤ (σ.1 1 8) → vp_in (σ.1 1 8) 160 ∧ ((¬ (σ.1 2 ((σ.1 1 8)).toNatClampNeg) = (32 : Int32) → P38 σ) ∧ ((σ.1 2 ((σ.1 1 8)).toNatClampNeg) = (32 : Int32) → ∀ σ3 : Mem, σ3 = st1 σ 1 8 ((σ.1 1 8) + (1 : Int32)) → P0 σ3)))) → P0 σ) →
  (∀ (σ : Mem), (∀ σ4 : Mem, σ4 = st1 σ 1 7 (σ.1 1 8) → ((σ4.1 1 8) < (σ4.1 1 1) → vp_in (σ4.1 1 8) 160 ∧ (∀ v6 : Int32, v6 = (σ4.1 2 ((σ4.1 1 8)).toNatClampNeg) → (¬ v6 = (59 : Int32) → wp_X4_isLetter v6 σ4 (fun r9 σ8 => (r9 = 0 → wp_X4_isFigure v6 σ8 (fun r12 σ11 => (r12 = 0 → wp_X4_fail (1 : Int32) ((σ11.1 1 7)) σ11 (fun r15 σ14 => (r15 = 0 ∨ r15 = 1) ∧ Q r15 σ14)) ∧ (¬ r12 = 0 → wp_X4_takeNumber σ11 (fun r17 σ16 => (r17 = 0 ∨ r17 = 1) ∧ Q r17 σ16)))) ∧ (¬ r9 = 0 → ∀ σ18 : Mem, σ18 = st1 σ8 1 6 (1 : Int32) → P109 σ18))) ∧ (v6 = (59 : Int32) → ∀ σ19 : Mem, σ19 = st1 σ4 1 6 (3 : Int32) → ∀ σ20 : Mem, σ20 = st1 σ19 1 8 ((σ19.1 1 8) + (1 : Int32)) → Q (1 : Int32) σ20))) ∧ (¬ (σ4.1 1 8) < (σ4.1 1 1) → ∀ σ21 : Mem, σ21 = st1 σ4 1 6 (0 : Int32) → Q (1 : Int32) σ21)) → P38 σ) →
  (∀ (σ : Mem), (((σ.1 1 1) ≤ (σ.1 1 8) → Q (1 : Int32) σ) ∧ (¬ (σ.1 1 1) ≤ (σ.1 1 8) → vp_in (σ.1 1 8) 160 ∧ (wp_X4_isLetter ((σ.1 2 ((σ.1 1 8)).toNatClampNeg)) σ (fun r24 σ23 => (r24 = 0 → Q (1 : Int32) σ23) ∧ (¬ r24 = 0 → ∀ σ26 : Mem, σ26 = st1 σ23 1 8 ((σ23.1 1 8) + (1 : Int32)) → P109 σ26))))) → P109 σ) →
  ((σ.1 1 1) ≤ (σ.1 1 8) → P38 σ) ∧ (¬ (σ.1 1 1) ≤ (σ.1 1 8) → vp_in (σ.1 1 8) 160 ∧ ((¬ (σ.1 2 ((σ.1 1 8)).toNatClampNeg) = (32 : Int32) → P38 σ) ∧ ((σ.1 2 ((σ.1 1 8)).toNatClampNeg) = (32 : Int32) → ∀ σ29 : Mem, σ29 = st1 σ 1 8 ((σ.1 1 8) + (1 : Int32)) → P0 σ29)))
theorem in_X4_take_X4 : ∀ w ∈ wsX40, w ∈ wsX4_take := fun _ h => List.mem_cons_of_mem _ (List.mem_append_right _ h)
def rmX4_take : Room := { frames := 2, cells := 0, slots := 0, locals := 42 }
theorem hdX4_take : yX4_take.cls = RX4 ∧ yX4_take.cls ≠ "java/lang/invoke/MethodHandle" ∧ yX4_take.cls ≠ "java/lang/invoke/VarHandle" ∧ (parseMethodDescriptor yX4_take.desc).map (fun d => d.parameters.length) = some 0 := by decide +kernel
set_option maxHeartbeats 4000000 in
set_option maxRecDepth 100000 in
theorem c_X4_take {l : Launch} {E : EE}   {σ : Mem} {Q : Int32 → Mem → Prop} (h : wp_X4_take  σ Q) : CtI l yX4_take wsX4_take rmX4_take E [.ref (eA E 1)] σ Q := by
  refine metI (cc := cX4_take) (nL := 2) (ret := (some .boolean)) (lv := [(0, .ref (eA E 1))]) (by decide) rfl (Nat.le_of_ble_eq_true rfl) rfl ?_
  intro p e s m args below meth c C
  unfold wp_X4_take at h
  replace h := h (fun (σ : Mem) => J E p l e rmX4_take s m args below meth c (QI E below args s Q) 2 0 [(0, .ref (eA E 1))] [] σ) (fun (σ : Mem) => J E p l e rmX4_take s m args below meth c (QI E below args s Q) 2 38 [(0, .ref (eA E 1))] [] σ) (fun (σ : Mem) => J E p l e rmX4_take s m args below meth c (QI E below args s Q) 2 109 [(0, .ref (eA E 1))] [] σ) (by
    intro σ h
    refine j_aload_n C 0 dX4_take_0 rfl 0 rfl ?_
    refine j_getI C 1 8 rfl rfl rfl in_X4_take_X4 (by decide) (by decide +kernel) dX4_take_1 ?_
    refine j_aload_n C 0 dX4_take_4 rfl 0 rfl ?_
    refine j_getI C 1 1 rfl rfl rfl in_X4_take_X4 (by decide) (by decide +kernel) dX4_take_5 ?_
    refine j_icmp_ge C 38 dX4_take_8 (by decide) (fun c1 => ?_) (fun c1 => ?_)
    · replace h := h.1 c1
      exact j_sub (lv' := [(0, .ref (eA E 1))]) [0] rfl h
    · replace h := h.2 c1
      refine j_aload_n C 0 dX4_take_11 rfl 0 rfl ?_
      refine j_getR C 2 1 0 rfl rfl rfl in_X4_take_X4 (by decide) (by decide +kernel) dX4_take_12 ?_
      refine j_aload_n C 0 dX4_take_15 rfl 0 rfl ?_
      refine j_getI C 1 8 rfl rfl rfl in_X4_take_X4 (by decide) (by decide +kernel) dX4_take_16 ?_
      refine j_bald C 2 rfl dX4_take_19 h.1 ?_
      replace h := h.2
      refine j_bipush (v := (32 : Int32)) C dX4_take_20 (by decide) ?_
      refine j_icmp_ne C 38 dX4_take_22 (by decide) (fun c2 => ?_) (fun c2 => ?_)
      · replace h := h.1 c2
        exact j_sub (lv' := [(0, .ref (eA E 1))]) [0] rfl h
      · replace h := h.2 c2
        refine j_aload_n C 0 dX4_take_25 rfl 0 rfl ?_
        refine j_dup C dX4_take_26 rfl ?_
        refine j_getI C 1 8 rfl rfl rfl in_X4_take_X4 (by decide) (by decide +kernel) dX4_take_27 ?_
        refine j_iconst (v := (1 : Int32)) C dX4_take_30 (by decide) ?_
        refine j_iadd C dX4_take_31 ?_
        refine j_put C 1 8 rfl rfl rfl in_X4_take_X4 tyX4 tyX4_ok nmX4 (by decide) (by decide +kernel) rfl rfl rfl rfl dX4_take_32 ?_
        refine j_mem (fun σ3 eσ3 => ?_)
        replace h := h σ3 eσ3
        refine j_goto C 0 dX4_take_35 (by decide) ?_
        exact j_sub (lv' := [(0, .ref (eA E 1))]) [0] rfl h) (by
    intro σ h
    refine j_aload_n C 0 dX4_take_38 rfl 0 rfl ?_
    refine j_aload_n C 0 dX4_take_39 rfl 0 rfl ?_
    refine j_getI C 1 8 rfl rfl rfl in_X4_take_X4 (by decide) (by decide +kernel) dX4_take_40 ?_
    refine j_put C 1 7 rfl rfl rfl in_X4_take_X4 tyX4 tyX4_ok nmX4 (by decide) (by decide +kernel) rfl rfl rfl rfl dX4_take_43 ?_
    refine j_mem (fun σ4 eσ4 => ?_)
    replace h := h σ4 eσ4
    refine j_aload_n C 0 dX4_take_46 rfl 0 rfl ?_
    refine j_getI C 1 8 rfl rfl rfl in_X4_take_X4 (by decide) (by decide +kernel) dX4_take_47 ?_
    refine j_aload_n C 0 dX4_take_50 rfl 0 rfl ?_
    refine j_getI C 1 1 rfl rfl rfl in_X4_take_X4 (by decide) (by decide +kernel) dX4_take_51 ?_
    refine j_icmp_lt C 64 dX4_take_54 (by decide) (fun c5 => ?_) (fun c5 => ?_)
    · replace h := h.1 c5
      refine j_aload_n C 0 dX4_take_64 rfl 0 rfl ?_
      refine j_getR C 2 1 0 rfl rfl rfl in_X4_take_X4 (by decide) (by decide +kernel) dX4_take_65 ?_
      refine j_aload_n C 0 dX4_take_68 rfl 0 rfl ?_
      refine j_getI C 1 8 rfl rfl rfl in_X4_take_X4 (by decide) (by decide +kernel) dX4_take_69 ?_
      refine j_bald C 2 rfl dX4_take_72 h.1 ?_
      replace h := h.2
      refine j_topi (fun v6 ev6 => ?_)
      replace h := h v6 ev6
      refine j_istore_n (lv' := [(1, .int v6), (0, .ref (eA E 1))]) C 1 dX4_take_73 rfl (by decide) rfl ?_
      refine j_iload_n C 1 dX4_take_74 rfl 0 rfl ?_
      refine j_bipush (v := (59 : Int32)) C dX4_take_75 (by decide) ?_
      refine j_icmp_ne C 97 dX4_take_77 (by decide) (fun c7 => ?_) (fun c7 => ?_)
      · replace h := h.1 c7
        refine j_iload_n C 1 dX4_take_97 rfl 0 rfl ?_
        refine j_callSI (As := [.int v6]) (rest := []) C (c_X4_isLetter h) (va_cwS 1 C.2.2.2.2.2.1 gX4_take_X4_isLetter rfl rfl rfl hdX4_isLetter.2 ⟨Nat.le_of_ble_eq_true rfl, Nat.le_of_ble_eq_true rfl⟩) rfl rfl (Nat.le_of_ble_eq_true rfl) dX4_take_98 (fun r9 σ8 h => ?_)
        refine j_if_eq C 150 dX4_take_101 (by decide) (fun c10 => ?_) (fun c10 => ?_)
        · replace h := h.1 c10
          refine j_iload_n C 1 dX4_take_150 rfl 0 rfl ?_
          refine j_callSI (As := [.int v6]) (rest := []) C (c_X4_isFigure h) (va_cwS 1 C.2.2.2.2.2.1 gX4_take_X4_isFigure rfl rfl rfl hdX4_isFigure.2 ⟨Nat.le_of_ble_eq_true rfl, Nat.le_of_ble_eq_true rfl⟩) rfl rfl (Nat.le_of_ble_eq_true rfl) dX4_take_151 (fun r12 σ11 h => ?_)
          refine j_if_eq C 164 dX4_take_154 (by decide) (fun c13 => ?_) (fun c13 => ?_)
          · replace h := h.1 c13
            refine j_aload_n C 0 dX4_take_164 rfl 1 rfl ?_
            refine j_iconst (v := (1 : Int32)) C dX4_take_165 (by decide) ?_
            refine j_aload_n C 0 dX4_take_166 rfl 1 rfl ?_
            refine j_getI C 1 7 rfl rfl rfl in_X4_take_X4 (by decide) (by decide +kernel) dX4_take_167 ?_
            refine j_callVI (As := [.int (1 : Int32), .int (σ11.1 1 7)]) (rest := []) C 1 (c_X4_fail h) (cwV 2 C.2.2.2.2.2.1 gX4_take_X4_fail rfl rfl rfl hdX4_fail ⟨Nat.le_of_ble_eq_true rfl, Nat.le_of_ble_eq_true rfl⟩) rfl rfl rfl rfl (Nat.le_of_ble_eq_true rfl) dX4_take_170 (fun r15 σ14 h => ?_)
            exact j_zret C dX4_take_173 h.1 h.2
          · replace h := h.2 c13
            refine j_aload_n C 0 dX4_take_157 rfl 1 rfl ?_
            refine j_callVI (As := []) (rest := []) C 1 (c_X4_takeNumber h) (cwV 0 C.2.2.2.2.2.1 gX4_take_X4_takeNumber rfl rfl rfl hdX4_takeNumber ⟨Nat.le_of_ble_eq_true rfl, Nat.le_of_ble_eq_true rfl⟩) rfl rfl rfl rfl (Nat.le_of_ble_eq_true rfl) dX4_take_158 (fun r17 σ16 h => ?_)
            refine j_goto C 173 dX4_take_161 (by decide) ?_
            exact j_zret C dX4_take_173 h.1 h.2
        · replace h := h.2 c10
          refine j_aload_n C 0 dX4_take_104 rfl 1 rfl ?_
          refine j_iconst (v := (1 : Int32)) C dX4_take_105 (by decide) ?_
          refine j_put C 1 6 rfl rfl rfl in_X4_take_X4 tyX4 tyX4_ok nmX4 (by decide) (by decide +kernel) rfl rfl rfl rfl dX4_take_106 ?_
          refine j_mem (fun σ18 eσ18 => ?_)
          replace h := h σ18 eσ18
          exact j_sub (lv' := [(0, .ref (eA E 1))]) [1] rfl h
      · replace h := h.2 c7
        refine j_aload_n C 0 dX4_take_80 rfl 1 rfl ?_
        refine j_iconst (v := (3 : Int32)) C dX4_take_81 (by decide) ?_
        refine j_put C 1 6 rfl rfl rfl in_X4_take_X4 tyX4 tyX4_ok nmX4 (by decide) (by decide +kernel) rfl rfl rfl rfl dX4_take_82 ?_
        refine j_mem (fun σ19 eσ19 => ?_)
        replace h := h σ19 eσ19
        refine j_aload_n C 0 dX4_take_85 rfl 1 rfl ?_
        refine j_dup C dX4_take_86 rfl ?_
        refine j_getI C 1 8 rfl rfl rfl in_X4_take_X4 (by decide) (by decide +kernel) dX4_take_87 ?_
        refine j_iconst (v := (1 : Int32)) C dX4_take_90 (by decide) ?_
        refine j_iadd C dX4_take_91 ?_
        refine j_put C 1 8 rfl rfl rfl in_X4_take_X4 tyX4 tyX4_ok nmX4 (by decide) (by decide +kernel) rfl rfl rfl rfl dX4_take_92 ?_
        refine j_mem (fun σ20 eσ20 => ?_)
        replace h := h σ20 eσ20
        refine j_iconst (v := (1 : Int32)) C dX4_take_95 (by decide) ?_
        exact j_zret C dX4_take_96 (Or.inr rfl) h
    · replace h := h.2 c5
      refine j_aload_n C 0 dX4_take_57 rfl 0 rfl ?_
      refine j_iconst (v := (0 : Int32)) C dX4_take_58 (by decide) ?_
      refine j_put C 1 6 rfl rfl rfl in_X4_take_X4 tyX4 tyX4_ok nmX4 (by decide) (by decide +kernel) rfl rfl rfl rfl dX4_take_59 ?_
      refine j_mem (fun σ21 eσ21 => ?_)
      replace h := h σ21 eσ21
      refine j_iconst (v := (1 : Int32)) C dX4_take_62 (by decide) ?_
      exact j_zret C dX4_take_63 (Or.inr rfl) h) (by
    intro σ h
    refine j_aload_n C 0 dX4_take_109 rfl 0 rfl ?_
    refine j_getI C 1 8 rfl rfl rfl in_X4_take_X4 (by decide) (by decide +kernel) dX4_take_110 ?_
    refine j_aload_n C 0 dX4_take_113 rfl 0 rfl ?_
    refine j_getI C 1 1 rfl rfl rfl in_X4_take_X4 (by decide) (by decide +kernel) dX4_take_114 ?_
    refine j_icmp_ge C 148 dX4_take_117 (by decide) (fun c22 => ?_) (fun c22 => ?_)
    · replace h := h.1 c22
      refine j_iconst (v := (1 : Int32)) C dX4_take_148 (by decide) ?_
      exact j_zret C dX4_take_149 (Or.inr rfl) h
    · replace h := h.2 c22
      refine j_aload_n C 0 dX4_take_120 rfl 0 rfl ?_
      refine j_getR C 2 1 0 rfl rfl rfl in_X4_take_X4 (by decide) (by decide +kernel) dX4_take_121 ?_
      refine j_aload_n C 0 dX4_take_124 rfl 0 rfl ?_
      refine j_getI C 1 8 rfl rfl rfl in_X4_take_X4 (by decide) (by decide +kernel) dX4_take_125 ?_
      refine j_bald C 2 rfl dX4_take_128 h.1 ?_
      replace h := h.2
      refine j_callSI (As := [.int (σ.1 2 ((σ.1 1 8)).toNatClampNeg)]) (rest := []) C (c_X4_isLetter h) (va_cwS 1 C.2.2.2.2.2.1 gX4_take_X4_isLetter rfl rfl rfl hdX4_isLetter.2 ⟨Nat.le_of_ble_eq_true rfl, Nat.le_of_ble_eq_true rfl⟩) rfl rfl (Nat.le_of_ble_eq_true rfl) dX4_take_129 (fun r24 σ23 h => ?_)
      refine j_if_eq C 148 dX4_take_132 (by decide) (fun c25 => ?_) (fun c25 => ?_)
      · replace h := h.1 c25
        refine j_iconst (v := (1 : Int32)) C dX4_take_148 (by decide) ?_
        exact j_zret C dX4_take_149 (Or.inr rfl) h
      · replace h := h.2 c25
        refine j_aload_n C 0 dX4_take_135 rfl 0 rfl ?_
        refine j_dup C dX4_take_136 rfl ?_
        refine j_getI C 1 8 rfl rfl rfl in_X4_take_X4 (by decide) (by decide +kernel) dX4_take_137 ?_
        refine j_iconst (v := (1 : Int32)) C dX4_take_140 (by decide) ?_
        refine j_iadd C dX4_take_141 ?_
        refine j_put C 1 8 rfl rfl rfl in_X4_take_X4 tyX4 tyX4_ok nmX4 (by decide) (by decide +kernel) rfl rfl rfl rfl dX4_take_142 ?_
        refine j_mem (fun σ26 eσ26 => ?_)
        replace h := h σ26 eσ26
        refine j_goto C 109 dX4_take_145 (by decide) ?_
        exact j_sub (lv' := [(0, .ref (eA E 1))]) [0] rfl h)
  refine j_aload_n C 0 dX4_take_0 rfl 0 rfl ?_
  refine j_getI C 1 8 rfl rfl rfl in_X4_take_X4 (by decide) (by decide +kernel) dX4_take_1 ?_
  refine j_aload_n C 0 dX4_take_4 rfl 0 rfl ?_
  refine j_getI C 1 1 rfl rfl rfl in_X4_take_X4 (by decide) (by decide +kernel) dX4_take_5 ?_
  refine j_icmp_ge C 38 dX4_take_8 (by decide) (fun c27 => ?_) (fun c27 => ?_)
  · replace h := h.1 c27
    exact j_sub (lv' := [(0, .ref (eA E 1))]) [0] rfl h
  · replace h := h.2 c27
    refine j_aload_n C 0 dX4_take_11 rfl 0 rfl ?_
    refine j_getR C 2 1 0 rfl rfl rfl in_X4_take_X4 (by decide) (by decide +kernel) dX4_take_12 ?_
    refine j_aload_n C 0 dX4_take_15 rfl 0 rfl ?_
    refine j_getI C 1 8 rfl rfl rfl in_X4_take_X4 (by decide) (by decide +kernel) dX4_take_16 ?_
    refine j_bald C 2 rfl dX4_take_19 h.1 ?_
    replace h := h.2
    refine j_bipush (v := (32 : Int32)) C dX4_take_20 (by decide) ?_
    refine j_icmp_ne C 38 dX4_take_22 (by decide) (fun c28 => ?_) (fun c28 => ?_)
    · replace h := h.1 c28
      exact j_sub (lv' := [(0, .ref (eA E 1))]) [0] rfl h
    · replace h := h.2 c28
      refine j_aload_n C 0 dX4_take_25 rfl 0 rfl ?_
      refine j_dup C dX4_take_26 rfl ?_
      refine j_getI C 1 8 rfl rfl rfl in_X4_take_X4 (by decide) (by decide +kernel) dX4_take_27 ?_
      refine j_iconst (v := (1 : Int32)) C dX4_take_30 (by decide) ?_
      refine j_iadd C dX4_take_31 ?_
      refine j_put C 1 8 rfl rfl rfl in_X4_take_X4 tyX4 tyX4_ok nmX4 (by decide) (by decide +kernel) rfl rfl rfl rfl dX4_take_32 ?_
      refine j_mem (fun σ29 eσ29 => ?_)
      replace h := h σ29 eσ29
      refine j_goto C 0 dX4_take_35 (by decide) ?_
      exact j_sub (lv' := [(0, .ref (eA E 1))]) [0] rfl h
def wp_X4_isNamed (i : Nat) (σ : Mem) (Q : Int32 → Mem → Prop) : Prop :=
  ∀ (P20 : Int32 → Mem → Prop),
  (∀ (x2 : Int32) (σ : Mem), (∀ (r2 : Int32) (σ1 : Mem), r2 = nI (sLen.getD i 0) → σ1 = σ → (r2 ≤ x2 → Q (1 : Int32) σ1) ∧ (¬ r2 ≤ x2 → vp_in ((σ1.1 1 7) + x2) 160 ∧ (vp_in x2 (sLen.getD i 0) ∧ (∀ (r5 : Int32) (σ4 : Mem), r5 = (sByt.getD i []).getD (x2).toNatClampNeg 0 → σ4 = σ1 → ((σ1.1 2 (((σ1.1 1 7) + x2)).toNatClampNeg) = r5 → ∀ v7 : Int32, v7 = x2 + (1 : Int32) → P20 v7 σ4) ∧ (¬ (σ1.1 2 (((σ1.1 1 7) + x2)).toNatClampNeg) = r5 → Q (0 : Int32) σ4))))) → P20 x2 σ) →
  ∀ (r9 : Int32) (σ8 : Mem), r9 = nI (sLen.getD i 0) → σ8 = σ → (((σ.1 1 8) - (σ.1 1 7)) = r9 → P20 (0 : Int32) σ8) ∧ (¬ ((σ.1 1 8) - (σ.1 1 7)) = r9 → Q (0 : Int32) σ8)
theorem in_X4_isNamed_X4 : ∀ w ∈ wsX40, w ∈ wsX4_isNamed := fun _ h => List.mem_cons_of_mem _ (List.mem_append_right _ h)
def rmX4_isNamed : Room := { frames := 4, cells := 0, slots := 0, locals := 85 }
theorem hdX4_isNamed : yX4_isNamed.cls = RX4 ∧ yX4_isNamed.cls ≠ "java/lang/invoke/MethodHandle" ∧ yX4_isNamed.cls ≠ "java/lang/invoke/VarHandle" ∧ (parseMethodDescriptor yX4_isNamed.desc).map (fun d => d.parameters.length) = some 1 := by decide +kernel
set_option maxHeartbeats 4000000 in
set_option maxRecDepth 100000 in
theorem c_X4_isNamed {l : Launch} {E : EE} {i : Nat} (hi : i < 7) {σ : Mem} {Q : Int32 → Mem → Prop} (h : wp_X4_isNamed i σ Q) : CtI l yX4_isNamed wsX4_isNamed rmX4_isNamed E [.ref (eA E 1), .ref (eX E (10 + i))] σ Q := by
  refine metI (cc := cX4_isNamed) (nL := 3) (ret := (some .boolean)) (lv := [(0, .ref (eA E 1)), (1, .ref (eX E (10 + i)))]) (by decide) rfl (Nat.le_of_ble_eq_true rfl) rfl ?_
  intro p e s m args below meth c C
  unfold wp_X4_isNamed at h
  replace h := h (fun (x2 : Int32) (σ : Mem) => J E p l e rmX4_isNamed s m args below meth c (QI E below args s Q) 3 20 [(0, .ref (eA E 1)), (1, .ref (eX E (10 + i))), (2, .int x2)] [] σ) (by
    intro x2 σ h
    refine j_iload_n C 2 dX4_isNamed_20 rfl 2 rfl ?_
    refine j_aload_n C 1 dX4_isNamed_21 rfl 1 rfl ?_
    refine j_slen C i hi ⟨Nat.le_of_ble_eq_true rfl, Nat.le_of_ble_eq_true rfl⟩ (Nat.le_of_ble_eq_true rfl) dX4_isNamed_22 (fun r2 σ1 h1 h2 => ?_)
    replace h := h r2 σ1 h1 h2
    refine j_icmp_ge C 55 dX4_isNamed_25 (by decide) (fun c3 => ?_) (fun c3 => ?_)
    · replace h := h.1 c3
      refine j_iconst (v := (1 : Int32)) C dX4_isNamed_55 (by decide) ?_
      exact j_zret C dX4_isNamed_56 (Or.inr rfl) h
    · replace h := h.2 c3
      refine j_aload_n C 0 dX4_isNamed_28 rfl 0 rfl ?_
      refine j_getR C 2 1 0 rfl rfl rfl in_X4_isNamed_X4 (by decide) (by decide +kernel) dX4_isNamed_29 ?_
      refine j_aload_n C 0 dX4_isNamed_32 rfl 0 rfl ?_
      refine j_getI C 1 7 rfl rfl rfl in_X4_isNamed_X4 (by decide) (by decide +kernel) dX4_isNamed_33 ?_
      refine j_iload_n C 2 dX4_isNamed_36 rfl 2 rfl ?_
      refine j_iadd C dX4_isNamed_37 ?_
      refine j_bald C 2 rfl dX4_isNamed_38 h.1 ?_
      replace h := h.2
      refine j_aload_n C 1 dX4_isNamed_39 rfl 1 rfl ?_
      refine j_iload_n C 2 dX4_isNamed_40 rfl 2 rfl ?_
      refine j_schar C i hi h.1 ⟨Nat.le_of_ble_eq_true rfl, Nat.le_of_ble_eq_true rfl⟩ (Nat.le_of_ble_eq_true rfl) rfl dX4_isNamed_41 (fun r5 σ4 h1 h2 => ?_)
      replace h := h.2 r5 σ4 h1 h2
      refine j_icmp_eq C 49 dX4_isNamed_44 (by decide) (fun c6 => ?_) (fun c6 => ?_)
      · replace h := h.1 c6
        obtain ⟨v7, ev7⟩ : ∃ y : Int32, y = x2 + (1 : Int32) := ⟨_, rfl⟩
        replace h := h v7 ev7
        refine j_iinc (v := v7) (lv' := [(2, .int v7), (0, .ref (eA E 1)), (1, .ref (eX E (10 + i)))]) C 2 dX4_isNamed_49 2 rfl (by rw [ev7]; rfl) (by decide) rfl ?_
        refine j_goto C 20 dX4_isNamed_52 (by decide) ?_
        exact j_sub (lv' := [(0, .ref (eA E 1)), (1, .ref (eX E (10 + i))), (2, .int v7)]) [1, 2, 0] rfl h
      · replace h := h.2 c6
        refine j_iconst (v := (0 : Int32)) C dX4_isNamed_47 (by decide) ?_
        exact j_zret C dX4_isNamed_48 (Or.inl rfl) h)
  refine j_aload_n C 0 dX4_isNamed_0 rfl 0 rfl ?_
  refine j_getI C 1 8 rfl rfl rfl in_X4_isNamed_X4 (by decide) (by decide +kernel) dX4_isNamed_1 ?_
  refine j_aload_n C 0 dX4_isNamed_4 rfl 0 rfl ?_
  refine j_getI C 1 7 rfl rfl rfl in_X4_isNamed_X4 (by decide) (by decide +kernel) dX4_isNamed_5 ?_
  refine j_isub C dX4_isNamed_8 ?_
  refine j_aload_n C 1 dX4_isNamed_9 rfl 1 rfl ?_
  refine j_slen C i hi ⟨Nat.le_of_ble_eq_true rfl, Nat.le_of_ble_eq_true rfl⟩ (Nat.le_of_ble_eq_true rfl) dX4_isNamed_10 (fun r9 σ8 h1 h2 => ?_)
  replace h := h r9 σ8 h1 h2
  refine j_icmp_eq C 18 dX4_isNamed_13 (by decide) (fun c10 => ?_) (fun c10 => ?_)
  · replace h := h.1 c10
    refine j_iconst (v := (0 : Int32)) C dX4_isNamed_18 (by decide) ?_
    refine j_istore_n (lv' := [(2, .int (0 : Int32)), (0, .ref (eA E 1)), (1, .ref (eX E (10 + i)))]) C 2 dX4_isNamed_19 rfl (by decide) rfl ?_
    exact j_sub (lv' := [(0, .ref (eA E 1)), (1, .ref (eX E (10 + i))), (2, .int (0 : Int32))]) [1, 2, 0] rfl h
  · replace h := h.2 c10
    refine j_iconst (v := (0 : Int32)) C dX4_isNamed_16 (by decide) ?_
    exact j_zret C dX4_isNamed_17 (Or.inl rfl) h
def wp_X4_kindNamed (σ : Mem) (Q : Int32 → Mem → Prop) : Prop :=
  wp_X4_isNamed 0 σ (fun r2 σ1 => (r2 = 0 → wp_X4_isNamed 1 σ1 (fun r5 σ4 => (r5 = 0 → wp_X4_isNamed 2 σ4 (fun r8 σ7 => (r8 = 0 → wp_X4_isNamed 3 σ7 (fun r11 σ10 => (r11 = 0 → Q (-4 : Int32) σ10) ∧ (¬ r11 = 0 → Q (3 : Int32) σ10))) ∧ (¬ r8 = 0 → Q (2 : Int32) σ7))) ∧ (¬ r5 = 0 → Q (1 : Int32) σ4))) ∧ (¬ r2 = 0 → Q (0 : Int32) σ1))
def rmX4_kindNamed : Room := { frames := 5, cells := 0, slots := 0, locals := 107 }
theorem hdX4_kindNamed : yX4_kindNamed.cls = RX4 ∧ yX4_kindNamed.cls ≠ "java/lang/invoke/MethodHandle" ∧ yX4_kindNamed.cls ≠ "java/lang/invoke/VarHandle" ∧ (parseMethodDescriptor yX4_kindNamed.desc).map (fun d => d.parameters.length) = some 0 := by decide +kernel
set_option maxHeartbeats 4000000 in
set_option maxRecDepth 100000 in
theorem c_X4_kindNamed {l : Launch} {E : EE}   {σ : Mem} {Q : Int32 → Mem → Prop} (h : wp_X4_kindNamed  σ Q) : CtI l yX4_kindNamed wsX4_kindNamed rmX4_kindNamed E [.ref (eA E 1)] σ Q := by
  refine metI (cc := cX4_kindNamed) (nL := 1) (ret := (some .int)) (lv := [(0, .ref (eA E 1))]) (by decide) rfl (Nat.le_of_ble_eq_true rfl) rfl ?_
  intro p e s m args below meth c C
  unfold wp_X4_kindNamed at h
  refine j_aload_n C 0 dX4_kindNamed_0 rfl 0 rfl ?_
  refine j_ldcS C 0 (by decide) rfl dX4_kindNamed_1 ?_
  refine j_callVI (As := [.ref (eX E (10 + 0))]) (rest := []) C 1 (c_X4_isNamed (by decide) h) (cwV 1 C.2.2.2.2.2.1 gX4_kindNamed_X4_isNamed rfl rfl rfl hdX4_isNamed ⟨Nat.le_of_ble_eq_true rfl, Nat.le_of_ble_eq_true rfl⟩) rfl rfl rfl rfl (Nat.le_of_ble_eq_true rfl) dX4_kindNamed_3 (fun r2 σ1 h => ?_)
  refine j_if_eq C 11 dX4_kindNamed_6 (by decide) (fun c3 => ?_) (fun c3 => ?_)
  · replace h := h.1 c3
    refine j_aload_n C 0 dX4_kindNamed_11 rfl 0 rfl ?_
    refine j_ldcS C 1 (by decide) rfl dX4_kindNamed_12 ?_
    refine j_callVI (As := [.ref (eX E (10 + 1))]) (rest := []) C 1 (c_X4_isNamed (by decide) h) (cwV 1 C.2.2.2.2.2.1 gX4_kindNamed_X4_isNamed rfl rfl rfl hdX4_isNamed ⟨Nat.le_of_ble_eq_true rfl, Nat.le_of_ble_eq_true rfl⟩) rfl rfl rfl rfl (Nat.le_of_ble_eq_true rfl) dX4_kindNamed_14 (fun r5 σ4 h => ?_)
    refine j_if_eq C 22 dX4_kindNamed_17 (by decide) (fun c6 => ?_) (fun c6 => ?_)
    · replace h := h.1 c6
      refine j_aload_n C 0 dX4_kindNamed_22 rfl 0 rfl ?_
      refine j_ldcS C 2 (by decide) rfl dX4_kindNamed_23 ?_
      refine j_callVI (As := [.ref (eX E (10 + 2))]) (rest := []) C 1 (c_X4_isNamed (by decide) h) (cwV 1 C.2.2.2.2.2.1 gX4_kindNamed_X4_isNamed rfl rfl rfl hdX4_isNamed ⟨Nat.le_of_ble_eq_true rfl, Nat.le_of_ble_eq_true rfl⟩) rfl rfl rfl rfl (Nat.le_of_ble_eq_true rfl) dX4_kindNamed_25 (fun r8 σ7 h => ?_)
      refine j_if_eq C 33 dX4_kindNamed_28 (by decide) (fun c9 => ?_) (fun c9 => ?_)
      · replace h := h.1 c9
        refine j_aload_n C 0 dX4_kindNamed_33 rfl 0 rfl ?_
        refine j_ldcS C 3 (by decide) rfl dX4_kindNamed_34 ?_
        refine j_callVI (As := [.ref (eX E (10 + 3))]) (rest := []) C 1 (c_X4_isNamed (by decide) h) (cwV 1 C.2.2.2.2.2.1 gX4_kindNamed_X4_isNamed rfl rfl rfl hdX4_isNamed ⟨Nat.le_of_ble_eq_true rfl, Nat.le_of_ble_eq_true rfl⟩) rfl rfl rfl rfl (Nat.le_of_ble_eq_true rfl) dX4_kindNamed_36 (fun r11 σ10 h => ?_)
        refine j_if_eq C 46 dX4_kindNamed_39 (by decide) (fun c12 => ?_) (fun c12 => ?_)
        · replace h := h.1 c12
          refine j_bipush (v := (-4 : Int32)) C dX4_kindNamed_46 (by decide) ?_
          exact j_iret C dX4_kindNamed_48 h
        · replace h := h.2 c12
          refine j_iconst (v := (3 : Int32)) C dX4_kindNamed_42 (by decide) ?_
          refine j_goto C 48 dX4_kindNamed_43 (by decide) ?_
          exact j_iret C dX4_kindNamed_48 h
      · replace h := h.2 c9
        refine j_iconst (v := (2 : Int32)) C dX4_kindNamed_31 (by decide) ?_
        exact j_iret C dX4_kindNamed_32 h
    · replace h := h.2 c6
      refine j_iconst (v := (1 : Int32)) C dX4_kindNamed_20 (by decide) ?_
      exact j_iret C dX4_kindNamed_21 h
  · replace h := h.2 c3
    refine j_iconst (v := (0 : Int32)) C dX4_kindNamed_9 (by decide) ?_
    exact j_iret C dX4_kindNamed_10 h
def wp_X4_isNumberWithin (a1 : Int32) (a2 : Int32) (σ : Mem) (Q : Int32 → Mem → Prop) : Prop :=
  ∀ (P42 : Mem → Prop),
  (∀ (σ : Mem), (Q (1 : Int32) σ) → P42 σ) →
  ((σ.1 1 6) = (2 : Int32) → wp_X5_within ((σ.1 1 9)) a1 a2 σ (fun r3 σ2 => (¬ r3 = 0 → P42 σ2) ∧ (r3 = 0 → wp_X4_fail (3 : Int32) ((σ2.1 1 7)) σ2 (fun r6 σ5 => (r6 = 0 → Q (0 : Int32) σ5) ∧ (¬ r6 = 0 → P42 σ5))))) ∧ (¬ (σ.1 1 6) = (2 : Int32) → wp_X4_fail (2 : Int32) ((σ.1 1 7)) σ (fun r9 σ8 => (r9 = 0 ∨ r9 = 1) ∧ Q r9 σ8))
theorem in_X4_isNumberWithin_X4 : ∀ w ∈ wsX40, w ∈ wsX4_isNumberWithin := fun _ h => List.mem_cons_of_mem _ (List.mem_append_right _ h)
def rmX4_isNumberWithin : Room := { frames := 1, cells := 0, slots := 0, locals := 22 }
theorem hdX4_isNumberWithin : yX4_isNumberWithin.cls = RX4 ∧ yX4_isNumberWithin.cls ≠ "java/lang/invoke/MethodHandle" ∧ yX4_isNumberWithin.cls ≠ "java/lang/invoke/VarHandle" ∧ (parseMethodDescriptor yX4_isNumberWithin.desc).map (fun d => d.parameters.length) = some 2 := by decide +kernel
set_option maxHeartbeats 4000000 in
set_option maxRecDepth 100000 in
theorem c_X4_isNumberWithin {l : Launch} {E : EE} {a1 : Int32} {a2 : Int32}  {σ : Mem} {Q : Int32 → Mem → Prop} (h : wp_X4_isNumberWithin a1 a2 σ Q) : CtI l yX4_isNumberWithin wsX4_isNumberWithin rmX4_isNumberWithin E [.ref (eA E 1), .int a1, .int a2] σ Q := by
  refine metI (cc := cX4_isNumberWithin) (nL := 3) (ret := (some .boolean)) (lv := [(0, .ref (eA E 1)), (1, .int a1), (2, .int a2)]) (by decide) rfl (Nat.le_of_ble_eq_true rfl) rfl ?_
  intro p e s m args below meth c C
  unfold wp_X4_isNumberWithin at h
  replace h := h (fun (σ : Mem) => J E p l e rmX4_isNumberWithin s m args below meth c (QI E below args s Q) 3 42 [] [] σ) (by
    intro σ h
    refine j_iconst (v := (1 : Int32)) C dX4_isNumberWithin_42 (by decide) ?_
    refine j_goto C 47 dX4_isNumberWithin_43 (by decide) ?_
    exact j_zret C dX4_isNumberWithin_47 (Or.inr rfl) h)
  refine j_aload_n C 0 dX4_isNumberWithin_0 rfl 0 rfl ?_
  refine j_getI C 1 6 rfl rfl rfl in_X4_isNumberWithin_X4 (by decide) (by decide +kernel) dX4_isNumberWithin_1 ?_
  refine j_iconst (v := (2 : Int32)) C dX4_isNumberWithin_4 (by decide) ?_
  refine j_icmp_eq C 18 dX4_isNumberWithin_5 (by decide) (fun c1 => ?_) (fun c1 => ?_)
  · replace h := h.1 c1
    refine j_aload_n C 0 dX4_isNumberWithin_18 rfl 0 rfl ?_
    refine j_getI C 1 9 rfl rfl rfl in_X4_isNumberWithin_X4 (by decide) (by decide +kernel) dX4_isNumberWithin_19 ?_
    refine j_iload_n C 1 dX4_isNumberWithin_22 rfl 1 rfl ?_
    refine j_iload_n C 2 dX4_isNumberWithin_23 rfl 2 rfl ?_
    refine j_callNI (As := [.int (σ.1 1 9), .int a1, .int a2]) (rest := []) C (c_X5_within h) ⟨va_cnB 3 C.2.2.2.2.2.1 gX4_isNumberWithin_X5_within_n166 rfl rfl rfl C.2.2.2.2.2.2.2.1.2.1.1 (C.2.2.2.2.2.1 _ (by decide +kernel)) hdX5_within.2 ⟨Nat.le_of_ble_eq_true rfl, Nat.le_of_ble_eq_true rfl⟩, C.2.2.2.2.2.1 _ (by decide +kernel), trivial⟩ rfl rfl (Nat.le_of_ble_eq_true rfl) dX4_isNumberWithin_24 (fun r3 σ2 h => ?_)
    refine j_if_ne C 42 dX4_isNumberWithin_27 (by decide) (fun c4 => ?_) (fun c4 => ?_)
    · replace h := h.1 c4
      exact j_sub (lv' := []) [] rfl h
    · replace h := h.2 c4
      refine j_aload_n C 0 dX4_isNumberWithin_30 rfl 0 rfl ?_
      refine j_iconst (v := (3 : Int32)) C dX4_isNumberWithin_31 (by decide) ?_
      refine j_aload_n C 0 dX4_isNumberWithin_32 rfl 0 rfl ?_
      refine j_getI C 1 7 rfl rfl rfl in_X4_isNumberWithin_X4 (by decide) (by decide +kernel) dX4_isNumberWithin_33 ?_
      refine j_callVI (As := [.int (3 : Int32), .int (σ2.1 1 7)]) (rest := []) C 1 (c_X4_fail h) (cwV 2 C.2.2.2.2.2.1 gX4_isNumberWithin_X4_fail rfl rfl rfl hdX4_fail ⟨Nat.le_of_ble_eq_true rfl, Nat.le_of_ble_eq_true rfl⟩) rfl rfl rfl rfl (Nat.le_of_ble_eq_true rfl) dX4_isNumberWithin_36 (fun r6 σ5 h => ?_)
      refine j_if_eq C 46 dX4_isNumberWithin_39 (by decide) (fun c7 => ?_) (fun c7 => ?_)
      · replace h := h.1 c7
        refine j_iconst (v := (0 : Int32)) C dX4_isNumberWithin_46 (by decide) ?_
        exact j_zret C dX4_isNumberWithin_47 (Or.inl rfl) h
      · replace h := h.2 c7
        exact j_sub (lv' := []) [] rfl h
  · replace h := h.2 c1
    refine j_aload_n C 0 dX4_isNumberWithin_8 rfl 0 rfl ?_
    refine j_iconst (v := (2 : Int32)) C dX4_isNumberWithin_9 (by decide) ?_
    refine j_aload_n C 0 dX4_isNumberWithin_10 rfl 0 rfl ?_
    refine j_getI C 1 7 rfl rfl rfl in_X4_isNumberWithin_X4 (by decide) (by decide +kernel) dX4_isNumberWithin_11 ?_
    refine j_callVI (As := [.int (2 : Int32), .int (σ.1 1 7)]) (rest := []) C 1 (c_X4_fail h) (cwV 2 C.2.2.2.2.2.1 gX4_isNumberWithin_X4_fail rfl rfl rfl hdX4_fail ⟨Nat.le_of_ble_eq_true rfl, Nat.le_of_ble_eq_true rfl⟩) rfl rfl rfl rfl (Nat.le_of_ble_eq_true rfl) dX4_isNumberWithin_14 (fun r9 σ8 h => ?_)
    exact j_zret C dX4_isNumberWithin_17 h.1 h.2
def wp_X4_readHeir (a1 : Int32) (σ : Mem) (Q : Int32 → Mem → Prop) : Prop :=
  ∀ (P24 : Int32 → Mem → Prop),
  (∀ (x2 : Int32) (σ : Mem), (((3 : Int32) < x2 → wp_X0_add 5 a1 ((σ.1 78 ((1 : Int32)).toNatClampNeg)) ((σ.1 78 ((2 : Int32)).toNatClampNeg)) ((σ.1 78 ((3 : Int32)).toNatClampNeg)) σ (fun r3 σ2 => (r3 = 0 ∨ r3 = 1) ∧ Q r3 σ2)) ∧ (¬ (3 : Int32) < x2 → wp_X4_take σ (fun r5 σ4 => (r5 = 0 → Q (0 : Int32) σ4) ∧ (¬ r5 = 0 → vp_in x2 4 ∧ (vp_in x2 4 ∧ (wp_X4_isNumberWithin ((tLeast.getD (x2).toNatClampNeg 0)) ((tGreat.getD (x2).toNatClampNeg 0)) σ4 (fun r8 σ7 => (¬ r8 = 0 → vp_in x2 4 ∧ (∀ σ10 : Mem, σ10 = st1 σ7 78 (x2).toNatClampNeg (σ7.1 1 9) → ∀ v11 : Int32, v11 = x2 + (1 : Int32) → P24 v11 σ10)) ∧ (r8 = 0 → Q (0 : Int32) σ7)))))))) → P24 x2 σ) →
  ((σ.1 5 2) < (6 : Int32) → P24 (1 : Int32) σ) ∧ (¬ (σ.1 5 2) < (6 : Int32) → wp_X4_fail (5 : Int32) ((σ.1 1 7)) σ (fun r14 σ13 => (r14 = 0 ∨ r14 = 1) ∧ Q r14 σ13))
theorem in_X4_readHeir_X0 : ∀ w ∈ wsX00, w ∈ wsX4_readHeir := fun _ h => List.mem_cons_of_mem _ (List.mem_append_right _ h)
theorem in_X4_readHeir_X4 : ∀ w ∈ wsX40, w ∈ wsX4_readHeir := fun _ h => List.mem_cons_of_mem _ (List.mem_append_left _ (List.mem_append_right _ h))
def rmX4_readHeir : Room := { frames := 3, cells := 0, slots := 0, locals := 63 }
theorem hdX4_readHeir : yX4_readHeir.cls = RX4 ∧ yX4_readHeir.cls ≠ "java/lang/invoke/MethodHandle" ∧ yX4_readHeir.cls ≠ "java/lang/invoke/VarHandle" ∧ (parseMethodDescriptor yX4_readHeir.desc).map (fun d => d.parameters.length) = some 1 := by decide +kernel
set_option maxHeartbeats 4000000 in
set_option maxRecDepth 100000 in
theorem c_X4_readHeir {l : Launch} {E : EE} {a1 : Int32}  {σ : Mem} {Q : Int32 → Mem → Prop} (h : wp_X4_readHeir a1 σ Q) : CtI l yX4_readHeir wsX4_readHeir rmX4_readHeir E [.ref (eA E 1), .int a1] σ Q := by
  refine metI (cc := cX4_readHeir) (nL := 3) (ret := (some .boolean)) (lv := [(0, .ref (eA E 1)), (1, .int a1)]) (by decide) rfl (Nat.le_of_ble_eq_true rfl) rfl ?_
  intro p e s m args below meth c C
  unfold wp_X4_readHeir at h
  replace h := h (fun (x2 : Int32) (σ : Mem) => J E p l e rmX4_readHeir s m args below meth c (QI E below args s Q) 3 24 [(0, .ref (eA E 1)), (1, .int a1), (2, .int x2)] [] σ) (by
    intro x2 σ h
    refine j_iload_n C 2 dX4_readHeir_24 rfl 2 rfl ?_
    refine j_iconst (v := (3 : Int32)) C dX4_readHeir_25 (by decide) ?_
    refine j_icmp_gt C 71 dX4_readHeir_26 (by decide) (fun c1 => ?_) (fun c1 => ?_)
    · replace h := h.1 c1
      refine j_aload_n C 0 dX4_readHeir_71 rfl 0 rfl ?_
      refine j_getR C 5 1 2 rfl rfl rfl in_X4_readHeir_X4 (by decide) (by decide +kernel) dX4_readHeir_72 ?_
      refine j_iload_n C 1 dX4_readHeir_75 rfl 1 rfl ?_
      refine j_aload_n C 0 dX4_readHeir_76 rfl 0 rfl ?_
      refine j_getR C 78 1 10 rfl rfl rfl in_X4_readHeir_X4 (by decide) (by decide +kernel) dX4_readHeir_77 ?_
      refine j_iconst (v := (1 : Int32)) C dX4_readHeir_80 (by decide) ?_
      refine j_iald C 78 rfl dX4_readHeir_81 (in_lit rfl) ?_
      refine j_aload_n C 0 dX4_readHeir_82 rfl 0 rfl ?_
      refine j_getR C 78 1 10 rfl rfl rfl in_X4_readHeir_X4 (by decide) (by decide +kernel) dX4_readHeir_83 ?_
      refine j_iconst (v := (2 : Int32)) C dX4_readHeir_86 (by decide) ?_
      refine j_iald C 78 rfl dX4_readHeir_87 (in_lit rfl) ?_
      refine j_aload_n C 0 dX4_readHeir_88 rfl 0 rfl ?_
      refine j_getR C 78 1 10 rfl rfl rfl in_X4_readHeir_X4 (by decide) (by decide +kernel) dX4_readHeir_89 ?_
      refine j_iconst (v := (3 : Int32)) C dX4_readHeir_92 (by decide) ?_
      refine j_iald C 78 rfl dX4_readHeir_93 (in_lit rfl) ?_
      refine j_callVI (As := [.int a1, .int (σ.1 78 ((1 : Int32)).toNatClampNeg), .int (σ.1 78 ((2 : Int32)).toNatClampNeg), .int (σ.1 78 ((3 : Int32)).toNatClampNeg)]) (rest := []) C 5 (c_X0_add (rfl) h) (cwV 4 C.2.2.2.2.2.1 gX4_readHeir_X0_add rfl rfl rfl hdX0_add ⟨Nat.le_of_ble_eq_true rfl, Nat.le_of_ble_eq_true rfl⟩) (shp_dyn (rfl)) rfl rfl rfl (Nat.le_of_ble_eq_true rfl) dX4_readHeir_94 (fun r3 σ2 h => ?_)
      exact j_zret C dX4_readHeir_97 h.1 h.2
    · replace h := h.2 c1
      refine j_aload_n C 0 dX4_readHeir_29 rfl 0 rfl ?_
      refine j_callVI (As := []) (rest := []) C 1 (c_X4_take h) (cwV 0 C.2.2.2.2.2.1 gX4_readHeir_X4_take rfl rfl rfl hdX4_take ⟨Nat.le_of_ble_eq_true rfl, Nat.le_of_ble_eq_true rfl⟩) rfl rfl rfl rfl (Nat.le_of_ble_eq_true rfl) dX4_readHeir_30 (fun r5 σ4 h => ?_)
      refine j_if_eq C 53 dX4_readHeir_33 (by decide) (fun c6 => ?_) (fun c6 => ?_)
      · replace h := h.1 c6
        refine j_iconst (v := (0 : Int32)) C dX4_readHeir_53 (by decide) ?_
        exact j_zret C dX4_readHeir_54 (Or.inl rfl) h
      · replace h := h.2 c6
        refine j_aload_n C 0 dX4_readHeir_36 rfl 0 rfl ?_
        refine j_tgetN C 0 (by decide) dX4_readHeir_37 ?_
        refine j_iload_n C 2 dX4_readHeir_40 rfl 2 rfl ?_
        refine j_tald C 0 (by decide) dX4_readHeir_41 h.1 ?_
        replace h := h.2
        refine j_tgetN C 1 (by decide) dX4_readHeir_42 ?_
        refine j_iload_n C 2 dX4_readHeir_45 rfl 2 rfl ?_
        refine j_tald C 1 (by decide) dX4_readHeir_46 h.1 ?_
        replace h := h.2
        refine j_callVI (As := [.int (tLeast.getD (x2).toNatClampNeg 0), .int (tGreat.getD (x2).toNatClampNeg 0)]) (rest := []) C 1 (c_X4_isNumberWithin h) (cwV 2 C.2.2.2.2.2.1 gX4_readHeir_X4_isNumberWithin rfl rfl rfl hdX4_isNumberWithin ⟨Nat.le_of_ble_eq_true rfl, Nat.le_of_ble_eq_true rfl⟩) rfl rfl rfl rfl (Nat.le_of_ble_eq_true rfl) dX4_readHeir_47 (fun r8 σ7 h => ?_)
        refine j_if_ne C 55 dX4_readHeir_50 (by decide) (fun c9 => ?_) (fun c9 => ?_)
        · replace h := h.1 c9
          refine j_aload_n C 0 dX4_readHeir_55 rfl 0 rfl ?_
          refine j_getR C 78 1 10 rfl rfl rfl in_X4_readHeir_X4 (by decide) (by decide +kernel) dX4_readHeir_56 ?_
          refine j_iload_n C 2 dX4_readHeir_59 rfl 2 rfl ?_
          refine j_aload_n C 0 dX4_readHeir_60 rfl 0 rfl ?_
          refine j_getI C 1 9 rfl rfl rfl in_X4_readHeir_X4 (by decide) (by decide +kernel) dX4_readHeir_61 ?_
          refine j_iast C 78 rfl dX4_readHeir_64 h.1 ?_
          replace h := h.2
          refine j_mem (fun σ10 eσ10 => ?_)
          replace h := h σ10 eσ10
          obtain ⟨v11, ev11⟩ : ∃ y : Int32, y = x2 + (1 : Int32) := ⟨_, rfl⟩
          replace h := h v11 ev11
          refine j_iinc (v := v11) (lv' := [(2, .int v11), (0, .ref (eA E 1)), (1, .int a1)]) C 2 dX4_readHeir_65 2 rfl (by rw [ev11]; rfl) (by decide) rfl ?_
          refine j_goto C 24 dX4_readHeir_68 (by decide) ?_
          exact j_sub (lv' := [(0, .ref (eA E 1)), (1, .int a1), (2, .int v11)]) [1, 2, 0] rfl h
        · replace h := h.2 c9
          refine j_iconst (v := (0 : Int32)) C dX4_readHeir_53 (by decide) ?_
          exact j_zret C dX4_readHeir_54 (Or.inl rfl) h)
  refine j_aload_n C 0 dX4_readHeir_0 rfl 0 rfl ?_
  refine j_getR C 5 1 2 rfl rfl rfl in_X4_readHeir_X4 (by decide) (by decide +kernel) dX4_readHeir_1 ?_
  refine j_getI C 5 2 (shp_dyn (rfl)) rfl rfl in_X4_readHeir_X0 (by decide) (by decide +kernel) dX4_readHeir_4 ?_
  refine j_bipush (v := (6 : Int32)) C dX4_readHeir_7 (by decide) ?_
  refine j_icmp_lt C 22 dX4_readHeir_9 (by decide) (fun c12 => ?_) (fun c12 => ?_)
  · replace h := h.1 c12
    refine j_iconst (v := (1 : Int32)) C dX4_readHeir_22 (by decide) ?_
    refine j_istore_n (lv' := [(2, .int (1 : Int32)), (0, .ref (eA E 1)), (1, .int a1)]) C 2 dX4_readHeir_23 rfl (by decide) rfl ?_
    exact j_sub (lv' := [(0, .ref (eA E 1)), (1, .int a1), (2, .int (1 : Int32))]) [1, 2, 0] rfl h
  · replace h := h.2 c12
    refine j_aload_n C 0 dX4_readHeir_12 rfl 0 rfl ?_
    refine j_iconst (v := (5 : Int32)) C dX4_readHeir_13 (by decide) ?_
    refine j_aload_n C 0 dX4_readHeir_14 rfl 0 rfl ?_
    refine j_getI C 1 7 rfl rfl rfl in_X4_readHeir_X4 (by decide) (by decide +kernel) dX4_readHeir_15 ?_
    refine j_callVI (As := [.int (5 : Int32), .int (σ.1 1 7)]) (rest := []) C 1 (c_X4_fail h) (cwV 2 C.2.2.2.2.2.1 gX4_readHeir_X4_fail rfl rfl rfl hdX4_fail ⟨Nat.le_of_ble_eq_true rfl, Nat.le_of_ble_eq_true rfl⟩) rfl rfl rfl rfl (Nat.le_of_ble_eq_true rfl) dX4_readHeir_18 (fun r14 σ13 h => ?_)
    exact j_zret C dX4_readHeir_21 h.1 h.2
def wp_X4_takeStop (σ : Mem) (Q : Int32 → Mem → Prop) : Prop :=
  ∀ (P27 : Mem → Prop),
  (∀ (σ : Mem), (Q (1 : Int32) σ) → P27 σ) →
  wp_X4_take σ (fun r2 σ1 => (r2 = 0 → Q (0 : Int32) σ1) ∧ (¬ r2 = 0 → ((σ1.1 1 6) = (3 : Int32) → P27 σ1) ∧ (¬ (σ1.1 1 6) = (3 : Int32) → wp_X4_fail (2 : Int32) ((σ1.1 1 7)) σ1 (fun r6 σ5 => (r6 = 0 → Q (0 : Int32) σ5) ∧ (¬ r6 = 0 → P27 σ5)))))
theorem in_X4_takeStop_X4 : ∀ w ∈ wsX40, w ∈ wsX4_takeStop := fun _ h => List.mem_cons_of_mem _ (List.mem_append_right _ h)
def rmX4_takeStop : Room := { frames := 3, cells := 0, slots := 0, locals := 63 }
theorem hdX4_takeStop : yX4_takeStop.cls = RX4 ∧ yX4_takeStop.cls ≠ "java/lang/invoke/MethodHandle" ∧ yX4_takeStop.cls ≠ "java/lang/invoke/VarHandle" ∧ (parseMethodDescriptor yX4_takeStop.desc).map (fun d => d.parameters.length) = some 0 := by decide +kernel
set_option maxHeartbeats 4000000 in
set_option maxRecDepth 100000 in
theorem c_X4_takeStop {l : Launch} {E : EE}   {σ : Mem} {Q : Int32 → Mem → Prop} (h : wp_X4_takeStop  σ Q) : CtI l yX4_takeStop wsX4_takeStop rmX4_takeStop E [.ref (eA E 1)] σ Q := by
  refine metI (cc := cX4_takeStop) (nL := 1) (ret := (some .boolean)) (lv := [(0, .ref (eA E 1))]) (by decide) rfl (Nat.le_of_ble_eq_true rfl) rfl ?_
  intro p e s m args below meth c C
  unfold wp_X4_takeStop at h
  replace h := h (fun (σ : Mem) => J E p l e rmX4_takeStop s m args below meth c (QI E below args s Q) 1 27 [] [] σ) (by
    intro σ h
    refine j_iconst (v := (1 : Int32)) C dX4_takeStop_27 (by decide) ?_
    refine j_goto C 32 dX4_takeStop_28 (by decide) ?_
    exact j_zret C dX4_takeStop_32 (Or.inr rfl) h)
  refine j_aload_n C 0 dX4_takeStop_0 rfl 0 rfl ?_
  refine j_callVI (As := []) (rest := []) C 1 (c_X4_take h) (cwV 0 C.2.2.2.2.2.1 gX4_takeStop_X4_take rfl rfl rfl hdX4_take ⟨Nat.le_of_ble_eq_true rfl, Nat.le_of_ble_eq_true rfl⟩) rfl rfl rfl rfl (Nat.le_of_ble_eq_true rfl) dX4_takeStop_1 (fun r2 σ1 h => ?_)
  refine j_if_eq C 31 dX4_takeStop_4 (by decide) (fun c3 => ?_) (fun c3 => ?_)
  · replace h := h.1 c3
    refine j_iconst (v := (0 : Int32)) C dX4_takeStop_31 (by decide) ?_
    exact j_zret C dX4_takeStop_32 (Or.inl rfl) h
  · replace h := h.2 c3
    refine j_aload_n C 0 dX4_takeStop_7 rfl 0 rfl ?_
    refine j_getI C 1 6 rfl rfl rfl in_X4_takeStop_X4 (by decide) (by decide +kernel) dX4_takeStop_8 ?_
    refine j_iconst (v := (3 : Int32)) C dX4_takeStop_11 (by decide) ?_
    refine j_icmp_eq C 27 dX4_takeStop_12 (by decide) (fun c4 => ?_) (fun c4 => ?_)
    · replace h := h.1 c4
      exact j_sub (lv' := []) [] rfl h
    · replace h := h.2 c4
      refine j_aload_n C 0 dX4_takeStop_15 rfl 0 rfl ?_
      refine j_iconst (v := (2 : Int32)) C dX4_takeStop_16 (by decide) ?_
      refine j_aload_n C 0 dX4_takeStop_17 rfl 0 rfl ?_
      refine j_getI C 1 7 rfl rfl rfl in_X4_takeStop_X4 (by decide) (by decide +kernel) dX4_takeStop_18 ?_
      refine j_callVI (As := [.int (2 : Int32), .int (σ1.1 1 7)]) (rest := []) C 1 (c_X4_fail h) (cwV 2 C.2.2.2.2.2.1 gX4_takeStop_X4_fail rfl rfl rfl hdX4_fail ⟨Nat.le_of_ble_eq_true rfl, Nat.le_of_ble_eq_true rfl⟩) rfl rfl rfl rfl (Nat.le_of_ble_eq_true rfl) dX4_takeStop_21 (fun r6 σ5 h => ?_)
      refine j_if_eq C 31 dX4_takeStop_24 (by decide) (fun c7 => ?_) (fun c7 => ?_)
      · replace h := h.1 c7
        refine j_iconst (v := (0 : Int32)) C dX4_takeStop_31 (by decide) ?_
        exact j_zret C dX4_takeStop_32 (Or.inl rfl) h
      · replace h := h.2 c7
        exact j_sub (lv' := []) [] rfl h
def wp_X4_readFirsts (σ : Mem) (Q : Int32 → Mem → Prop) : Prop :=
  ∀ (P24 : Int32 → Mem → Prop) (P81 : Mem → Prop),
  (∀ (x1 : Int32) (σ : Mem), (((6 : Int32) < x1 → wp_X4_fail (4 : Int32) ((σ.1 1 7)) σ (fun r3 σ2 => (r3 = 0 ∨ r3 = 1) ∧ Q r3 σ2)) ∧ (¬ (6 : Int32) < x1 → wp_X4_take σ (fun r5 σ4 => (¬ r5 = 0 → (¬ (σ4.1 1 6) = (3 : Int32) → wp_X4_isNumberWithin (0 : Int32) (5 : Int32) σ4 (fun r9 σ8 => (¬ r9 = 0 → vp_in (σ8.1 1 9) 6 ∧ ((¬ (σ8.1 4 ((σ8.1 1 9)).toNatClampNeg) = 0 → P81 σ8) ∧ ((σ8.1 4 ((σ8.1 1 9)).toNatClampNeg) = 0 → ((σ8.1 1 13) < (6 : Int32) → vp_in (σ8.1 1 9) 6 ∧ (∀ σ13 : Mem, σ13 = st1 σ8 4 ((σ8.1 1 9)).toNatClampNeg (vp_nar .boolean (1 : Int32)) → vp_in (σ13.1 1 13) 6 ∧ (∀ σ14 : Mem, σ14 = st1 σ13 3 ((σ13.1 1 13)).toNatClampNeg (σ13.1 1 9) → ∀ σ15 : Mem, σ15 = st1 σ14 1 13 ((σ14.1 1 13) + (1 : Int32)) → ∀ v16 : Int32, v16 = x1 + (1 : Int32) → P24 v16 σ15))) ∧ (¬ (σ8.1 1 13) < (6 : Int32) → P81 σ8)))) ∧ (r9 = 0 → Q (0 : Int32) σ8))) ∧ ((σ4.1 1 6) = (3 : Int32) → Q (1 : Int32) σ4)) ∧ (r5 = 0 → Q (0 : Int32) σ4)))) → P24 x1 σ) →
  (∀ (σ : Mem), (wp_X4_fail (4 : Int32) ((σ.1 1 7)) σ (fun r18 σ17 => (r18 = 0 ∨ r18 = 1) ∧ Q r18 σ17)) → P81 σ) →
  ((σ.1 1 14) = 0 → ∀ σ20 : Mem, σ20 = st1 σ 1 14 (1 : Int32) → P24 (0 : Int32) σ20) ∧ (¬ (σ.1 1 14) = 0 → wp_X4_fail (4 : Int32) ((σ.1 1 7)) σ (fun r22 σ21 => (r22 = 0 ∨ r22 = 1) ∧ Q r22 σ21))
theorem in_X4_readFirsts_X4 : ∀ w ∈ wsX40, w ∈ wsX4_readFirsts := fun _ h => List.mem_cons_of_mem _ (List.mem_append_right _ h)
def rmX4_readFirsts : Room := { frames := 3, cells := 0, slots := 0, locals := 63 }
theorem hdX4_readFirsts : yX4_readFirsts.cls = RX4 ∧ yX4_readFirsts.cls ≠ "java/lang/invoke/MethodHandle" ∧ yX4_readFirsts.cls ≠ "java/lang/invoke/VarHandle" ∧ (parseMethodDescriptor yX4_readFirsts.desc).map (fun d => d.parameters.length) = some 0 := by decide +kernel
set_option maxHeartbeats 4000000 in
set_option maxRecDepth 100000 in
theorem c_X4_readFirsts {l : Launch} {E : EE}   {σ : Mem} {Q : Int32 → Mem → Prop} (h : wp_X4_readFirsts  σ Q) : CtI l yX4_readFirsts wsX4_readFirsts rmX4_readFirsts E [.ref (eA E 1)] σ Q := by
  refine metI (cc := cX4_readFirsts) (nL := 2) (ret := (some .boolean)) (lv := [(0, .ref (eA E 1))]) (by decide) rfl (Nat.le_of_ble_eq_true rfl) rfl ?_
  intro p e s m args below meth c C
  unfold wp_X4_readFirsts at h
  replace h := h (fun (x1 : Int32) (σ : Mem) => J E p l e rmX4_readFirsts s m args below meth c (QI E below args s Q) 2 24 [(0, .ref (eA E 1)), (1, .int x1)] [] σ) (fun (σ : Mem) => J E p l e rmX4_readFirsts s m args below meth c (QI E below args s Q) 2 81 [(0, .ref (eA E 1))] [] σ) (by
    intro x1 σ h
    refine j_iload_n C 1 dX4_readFirsts_24 rfl 1 rfl ?_
    refine j_bipush (v := (6 : Int32)) C dX4_readFirsts_25 (by decide) ?_
    refine j_icmp_gt C 130 dX4_readFirsts_27 (by decide) (fun c1 => ?_) (fun c1 => ?_)
    · replace h := h.1 c1
      refine j_aload_n C 0 dX4_readFirsts_130 rfl 0 rfl ?_
      refine j_iconst (v := (4 : Int32)) C dX4_readFirsts_131 (by decide) ?_
      refine j_aload_n C 0 dX4_readFirsts_132 rfl 0 rfl ?_
      refine j_getI C 1 7 rfl rfl rfl in_X4_readFirsts_X4 (by decide) (by decide +kernel) dX4_readFirsts_133 ?_
      refine j_callVI (As := [.int (4 : Int32), .int (σ.1 1 7)]) (rest := []) C 1 (c_X4_fail h) (cwV 2 C.2.2.2.2.2.1 gX4_readFirsts_X4_fail rfl rfl rfl hdX4_fail ⟨Nat.le_of_ble_eq_true rfl, Nat.le_of_ble_eq_true rfl⟩) rfl rfl rfl rfl (Nat.le_of_ble_eq_true rfl) dX4_readFirsts_136 (fun r3 σ2 h => ?_)
      exact j_zret C dX4_readFirsts_139 h.1 h.2
    · replace h := h.2 c1
      refine j_aload_n C 0 dX4_readFirsts_30 rfl 0 rfl ?_
      refine j_callVI (As := []) (rest := []) C 1 (c_X4_take h) (cwV 0 C.2.2.2.2.2.1 gX4_readFirsts_X4_take rfl rfl rfl hdX4_take ⟨Nat.le_of_ble_eq_true rfl, Nat.le_of_ble_eq_true rfl⟩) rfl rfl rfl rfl (Nat.le_of_ble_eq_true rfl) dX4_readFirsts_31 (fun r5 σ4 h => ?_)
      refine j_if_ne C 39 dX4_readFirsts_34 (by decide) (fun c6 => ?_) (fun c6 => ?_)
      · replace h := h.1 c6
        refine j_aload_n C 0 dX4_readFirsts_39 rfl 0 rfl ?_
        refine j_getI C 1 6 rfl rfl rfl in_X4_readFirsts_X4 (by decide) (by decide +kernel) dX4_readFirsts_40 ?_
        refine j_iconst (v := (3 : Int32)) C dX4_readFirsts_43 (by decide) ?_
        refine j_icmp_ne C 49 dX4_readFirsts_44 (by decide) (fun c7 => ?_) (fun c7 => ?_)
        · replace h := h.1 c7
          refine j_aload_n C 0 dX4_readFirsts_49 rfl 0 rfl ?_
          refine j_iconst (v := (0 : Int32)) C dX4_readFirsts_50 (by decide) ?_
          refine j_iconst (v := (5 : Int32)) C dX4_readFirsts_51 (by decide) ?_
          refine j_callVI (As := [.int (0 : Int32), .int (5 : Int32)]) (rest := []) C 1 (c_X4_isNumberWithin h) (cwV 2 C.2.2.2.2.2.1 gX4_readFirsts_X4_isNumberWithin rfl rfl rfl hdX4_isNumberWithin ⟨Nat.le_of_ble_eq_true rfl, Nat.le_of_ble_eq_true rfl⟩) rfl rfl rfl rfl (Nat.le_of_ble_eq_true rfl) dX4_readFirsts_52 (fun r9 σ8 h => ?_)
          refine j_if_ne C 60 dX4_readFirsts_55 (by decide) (fun c10 => ?_) (fun c10 => ?_)
          · replace h := h.1 c10
            refine j_aload_n C 0 dX4_readFirsts_60 rfl 0 rfl ?_
            refine j_getR C 4 1 12 rfl rfl rfl in_X4_readFirsts_X4 (by decide) (by decide +kernel) dX4_readFirsts_61 ?_
            refine j_aload_n C 0 dX4_readFirsts_64 rfl 0 rfl ?_
            refine j_getI C 1 9 rfl rfl rfl in_X4_readFirsts_X4 (by decide) (by decide +kernel) dX4_readFirsts_65 ?_
            refine j_zald C 4 rfl dX4_readFirsts_68 h.1 ?_
            replace h := h.2
            refine j_if_ne C 81 dX4_readFirsts_69 (by decide) (fun c11 => ?_) (fun c11 => ?_)
            · replace h := h.1 c11
              exact j_sub (lv' := [(0, .ref (eA E 1))]) [0] rfl h
            · replace h := h.2 c11
              refine j_aload_n C 0 dX4_readFirsts_72 rfl 0 rfl ?_
              refine j_getI C 1 13 rfl rfl rfl in_X4_readFirsts_X4 (by decide) (by decide +kernel) dX4_readFirsts_73 ?_
              refine j_bipush (v := (6 : Int32)) C dX4_readFirsts_76 (by decide) ?_
              refine j_icmp_lt C 91 dX4_readFirsts_78 (by decide) (fun c12 => ?_) (fun c12 => ?_)
              · replace h := h.1 c12
                refine j_aload_n C 0 dX4_readFirsts_91 rfl 0 rfl ?_
                refine j_getR C 4 1 12 rfl rfl rfl in_X4_readFirsts_X4 (by decide) (by decide +kernel) dX4_readFirsts_92 ?_
                refine j_aload_n C 0 dX4_readFirsts_95 rfl 0 rfl ?_
                refine j_getI C 1 9 rfl rfl rfl in_X4_readFirsts_X4 (by decide) (by decide +kernel) dX4_readFirsts_96 ?_
                refine j_iconst (v := (1 : Int32)) C dX4_readFirsts_99 (by decide) ?_
                refine j_zast C 4 rfl dX4_readFirsts_100 h.1 ?_
                replace h := h.2
                refine j_mem (fun σ13 eσ13 => ?_)
                replace h := h σ13 eσ13
                refine j_aload_n C 0 dX4_readFirsts_101 rfl 0 rfl ?_
                refine j_getR C 3 1 11 rfl rfl rfl in_X4_readFirsts_X4 (by decide) (by decide +kernel) dX4_readFirsts_102 ?_
                refine j_aload_n C 0 dX4_readFirsts_105 rfl 0 rfl ?_
                refine j_getI C 1 13 rfl rfl rfl in_X4_readFirsts_X4 (by decide) (by decide +kernel) dX4_readFirsts_106 ?_
                refine j_aload_n C 0 dX4_readFirsts_109 rfl 0 rfl ?_
                refine j_getI C 1 9 rfl rfl rfl in_X4_readFirsts_X4 (by decide) (by decide +kernel) dX4_readFirsts_110 ?_
                refine j_iast C 3 rfl dX4_readFirsts_113 h.1 ?_
                replace h := h.2
                refine j_mem (fun σ14 eσ14 => ?_)
                replace h := h σ14 eσ14
                refine j_aload_n C 0 dX4_readFirsts_114 rfl 0 rfl ?_
                refine j_dup C dX4_readFirsts_115 rfl ?_
                refine j_getI C 1 13 rfl rfl rfl in_X4_readFirsts_X4 (by decide) (by decide +kernel) dX4_readFirsts_116 ?_
                refine j_iconst (v := (1 : Int32)) C dX4_readFirsts_119 (by decide) ?_
                refine j_iadd C dX4_readFirsts_120 ?_
                refine j_put C 1 13 rfl rfl rfl in_X4_readFirsts_X4 tyX4 tyX4_ok nmX4 (by decide) (by decide +kernel) rfl rfl rfl rfl dX4_readFirsts_121 ?_
                refine j_mem (fun σ15 eσ15 => ?_)
                replace h := h σ15 eσ15
                obtain ⟨v16, ev16⟩ : ∃ y : Int32, y = x1 + (1 : Int32) := ⟨_, rfl⟩
                replace h := h v16 ev16
                refine j_iinc (v := v16) (lv' := [(1, .int v16), (0, .ref (eA E 1))]) C 1 dX4_readFirsts_124 1 rfl (by rw [ev16]; rfl) (by decide) rfl ?_
                refine j_goto C 24 dX4_readFirsts_127 (by decide) ?_
                exact j_sub (lv' := [(0, .ref (eA E 1)), (1, .int v16)]) [1, 0] rfl h
              · replace h := h.2 c12
                exact j_sub (lv' := [(0, .ref (eA E 1))]) [0] rfl h
          · replace h := h.2 c10
            refine j_iconst (v := (0 : Int32)) C dX4_readFirsts_58 (by decide) ?_
            exact j_zret C dX4_readFirsts_59 (Or.inl rfl) h
        · replace h := h.2 c7
          refine j_iconst (v := (1 : Int32)) C dX4_readFirsts_47 (by decide) ?_
          exact j_zret C dX4_readFirsts_48 (Or.inr rfl) h
      · replace h := h.2 c6
        refine j_iconst (v := (0 : Int32)) C dX4_readFirsts_37 (by decide) ?_
        exact j_zret C dX4_readFirsts_38 (Or.inl rfl) h) (by
    intro σ h
    refine j_aload_n C 0 dX4_readFirsts_81 rfl 0 rfl ?_
    refine j_iconst (v := (4 : Int32)) C dX4_readFirsts_82 (by decide) ?_
    refine j_aload_n C 0 dX4_readFirsts_83 rfl 0 rfl ?_
    refine j_getI C 1 7 rfl rfl rfl in_X4_readFirsts_X4 (by decide) (by decide +kernel) dX4_readFirsts_84 ?_
    refine j_callVI (As := [.int (4 : Int32), .int (σ.1 1 7)]) (rest := []) C 1 (c_X4_fail h) (cwV 2 C.2.2.2.2.2.1 gX4_readFirsts_X4_fail rfl rfl rfl hdX4_fail ⟨Nat.le_of_ble_eq_true rfl, Nat.le_of_ble_eq_true rfl⟩) rfl rfl rfl rfl (Nat.le_of_ble_eq_true rfl) dX4_readFirsts_87 (fun r18 σ17 h => ?_)
    exact j_zret C dX4_readFirsts_90 h.1 h.2)
  refine j_aload_n C 0 dX4_readFirsts_0 rfl 0 rfl ?_
  refine j_getI C 1 14 rfl rfl rfl in_X4_readFirsts_X4 (by decide) (by decide +kernel) dX4_readFirsts_1 ?_
  refine j_if_eq C 17 dX4_readFirsts_4 (by decide) (fun c19 => ?_) (fun c19 => ?_)
  · replace h := h.1 c19
    refine j_aload_n C 0 dX4_readFirsts_17 rfl 0 rfl ?_
    refine j_iconst (v := (1 : Int32)) C dX4_readFirsts_18 (by decide) ?_
    refine j_put C 1 14 rfl rfl rfl in_X4_readFirsts_X4 tyX4 tyX4_ok nmX4 (by decide) (by decide +kernel) rfl rfl rfl rfl dX4_readFirsts_19 ?_
    refine j_mem (fun σ20 eσ20 => ?_)
    replace h := h σ20 eσ20
    refine j_iconst (v := (0 : Int32)) C dX4_readFirsts_22 (by decide) ?_
    refine j_istore_n (lv' := [(1, .int (0 : Int32)), (0, .ref (eA E 1))]) C 1 dX4_readFirsts_23 rfl (by decide) rfl ?_
    exact j_sub (lv' := [(0, .ref (eA E 1)), (1, .int (0 : Int32))]) [1, 0] rfl h
  · replace h := h.2 c19
    refine j_aload_n C 0 dX4_readFirsts_7 rfl 0 rfl ?_
    refine j_iconst (v := (4 : Int32)) C dX4_readFirsts_8 (by decide) ?_
    refine j_aload_n C 0 dX4_readFirsts_9 rfl 0 rfl ?_
    refine j_getI C 1 7 rfl rfl rfl in_X4_readFirsts_X4 (by decide) (by decide +kernel) dX4_readFirsts_10 ?_
    refine j_callVI (As := [.int (4 : Int32), .int (σ.1 1 7)]) (rest := []) C 1 (c_X4_fail h) (cwV 2 C.2.2.2.2.2.1 gX4_readFirsts_X4_fail rfl rfl rfl hdX4_fail ⟨Nat.le_of_ble_eq_true rfl, Nat.le_of_ble_eq_true rfl⟩) rfl rfl rfl rfl (Nat.le_of_ble_eq_true rfl) dX4_readFirsts_13 (fun r22 σ21 h => ?_)
    exact j_zret C dX4_readFirsts_16 h.1 h.2
def wp_X4_readLumbago (σ : Mem) (Q : Int32 → Mem → Prop) : Prop :=
  ((σ.1 1 15) = 0 → ∀ σ2 : Mem, σ2 = st1 σ 1 15 (1 : Int32) → wp_X4_take σ2 (fun r4 σ3 => (r4 = 0 → Q (0 : Int32) σ3) ∧ (¬ r4 = 0 → wp_X4_isNumberWithin (0 : Int32) (9 : Int32) σ3 (fun r7 σ6 => (¬ r7 = 0 → ∀ σ9 : Mem, σ9 = st1 σ6 5 3 (σ6.1 1 9) → Q (1 : Int32) σ9) ∧ (r7 = 0 → Q (0 : Int32) σ6))))) ∧ (¬ (σ.1 1 15) = 0 → wp_X4_fail (4 : Int32) ((σ.1 1 7)) σ (fun r11 σ10 => (r11 = 0 ∨ r11 = 1) ∧ Q r11 σ10))
theorem in_X4_readLumbago_X0 : ∀ w ∈ wsX00, w ∈ wsX4_readLumbago := fun _ h => List.mem_cons_of_mem _ (List.mem_append_right _ h)
theorem in_X4_readLumbago_X4 : ∀ w ∈ wsX40, w ∈ wsX4_readLumbago := fun _ h => List.mem_cons_of_mem _ (List.mem_append_left _ (List.mem_append_right _ h))
def rmX4_readLumbago : Room := { frames := 3, cells := 0, slots := 0, locals := 63 }
theorem hdX4_readLumbago : yX4_readLumbago.cls = RX4 ∧ yX4_readLumbago.cls ≠ "java/lang/invoke/MethodHandle" ∧ yX4_readLumbago.cls ≠ "java/lang/invoke/VarHandle" ∧ (parseMethodDescriptor yX4_readLumbago.desc).map (fun d => d.parameters.length) = some 0 := by decide +kernel
set_option maxHeartbeats 4000000 in
set_option maxRecDepth 100000 in
theorem c_X4_readLumbago {l : Launch} {E : EE}   {σ : Mem} {Q : Int32 → Mem → Prop} (h : wp_X4_readLumbago  σ Q) : CtI l yX4_readLumbago wsX4_readLumbago rmX4_readLumbago E [.ref (eA E 1)] σ Q := by
  refine metI (cc := cX4_readLumbago) (nL := 1) (ret := (some .boolean)) (lv := [(0, .ref (eA E 1))]) (by decide) rfl (Nat.le_of_ble_eq_true rfl) rfl ?_
  intro p e s m args below meth c C
  unfold wp_X4_readLumbago at h
  refine j_aload_n C 0 dX4_readLumbago_0 rfl 0 rfl ?_
  refine j_getI C 1 15 rfl rfl rfl in_X4_readLumbago_X4 (by decide) (by decide +kernel) dX4_readLumbago_1 ?_
  refine j_if_eq C 17 dX4_readLumbago_4 (by decide) (fun c1 => ?_) (fun c1 => ?_)
  · replace h := h.1 c1
    refine j_aload_n C 0 dX4_readLumbago_17 rfl 0 rfl ?_
    refine j_iconst (v := (1 : Int32)) C dX4_readLumbago_18 (by decide) ?_
    refine j_put C 1 15 rfl rfl rfl in_X4_readLumbago_X4 tyX4 tyX4_ok nmX4 (by decide) (by decide +kernel) rfl rfl rfl rfl dX4_readLumbago_19 ?_
    refine j_mem (fun σ2 eσ2 => ?_)
    replace h := h σ2 eσ2
    refine j_aload_n C 0 dX4_readLumbago_22 rfl 0 rfl ?_
    refine j_callVI (As := []) (rest := []) C 1 (c_X4_take h) (cwV 0 C.2.2.2.2.2.1 gX4_readLumbago_X4_take rfl rfl rfl hdX4_take ⟨Nat.le_of_ble_eq_true rfl, Nat.le_of_ble_eq_true rfl⟩) rfl rfl rfl rfl (Nat.le_of_ble_eq_true rfl) dX4_readLumbago_23 (fun r4 σ3 h => ?_)
    refine j_if_eq C 39 dX4_readLumbago_26 (by decide) (fun c5 => ?_) (fun c5 => ?_)
    · replace h := h.1 c5
      refine j_iconst (v := (0 : Int32)) C dX4_readLumbago_39 (by decide) ?_
      exact j_zret C dX4_readLumbago_40 (Or.inl rfl) h
    · replace h := h.2 c5
      refine j_aload_n C 0 dX4_readLumbago_29 rfl 0 rfl ?_
      refine j_iconst (v := (0 : Int32)) C dX4_readLumbago_30 (by decide) ?_
      refine j_bipush (v := (9 : Int32)) C dX4_readLumbago_31 (by decide) ?_
      refine j_callVI (As := [.int (0 : Int32), .int (9 : Int32)]) (rest := []) C 1 (c_X4_isNumberWithin h) (cwV 2 C.2.2.2.2.2.1 gX4_readLumbago_X4_isNumberWithin rfl rfl rfl hdX4_isNumberWithin ⟨Nat.le_of_ble_eq_true rfl, Nat.le_of_ble_eq_true rfl⟩) rfl rfl rfl rfl (Nat.le_of_ble_eq_true rfl) dX4_readLumbago_33 (fun r7 σ6 h => ?_)
      refine j_if_ne C 41 dX4_readLumbago_36 (by decide) (fun c8 => ?_) (fun c8 => ?_)
      · replace h := h.1 c8
        refine j_aload_n C 0 dX4_readLumbago_41 rfl 0 rfl ?_
        refine j_getR C 5 1 2 rfl rfl rfl in_X4_readLumbago_X4 (by decide) (by decide +kernel) dX4_readLumbago_42 ?_
        refine j_aload_n C 0 dX4_readLumbago_45 rfl 0 rfl ?_
        refine j_getI C 1 9 rfl rfl rfl in_X4_readLumbago_X4 (by decide) (by decide +kernel) dX4_readLumbago_46 ?_
        refine j_put C 5 3 (shp_dyn (rfl)) rfl rfl in_X4_readLumbago_X0 tyX0 tyX0_ok nmX0 (by decide) (by decide +kernel) rfl rfl rfl rfl dX4_readLumbago_49 ?_
        refine j_mem (fun σ9 eσ9 => ?_)
        replace h := h σ9 eσ9
        refine j_iconst (v := (1 : Int32)) C dX4_readLumbago_52 (by decide) ?_
        exact j_zret C dX4_readLumbago_53 (Or.inr rfl) h
      · replace h := h.2 c8
        refine j_iconst (v := (0 : Int32)) C dX4_readLumbago_39 (by decide) ?_
        exact j_zret C dX4_readLumbago_40 (Or.inl rfl) h
  · replace h := h.2 c1
    refine j_aload_n C 0 dX4_readLumbago_7 rfl 0 rfl ?_
    refine j_iconst (v := (4 : Int32)) C dX4_readLumbago_8 (by decide) ?_
    refine j_aload_n C 0 dX4_readLumbago_9 rfl 0 rfl ?_
    refine j_getI C 1 7 rfl rfl rfl in_X4_readLumbago_X4 (by decide) (by decide +kernel) dX4_readLumbago_10 ?_
    refine j_callVI (As := [.int (4 : Int32), .int (σ.1 1 7)]) (rest := []) C 1 (c_X4_fail h) (cwV 2 C.2.2.2.2.2.1 gX4_readLumbago_X4_fail rfl rfl rfl hdX4_fail ⟨Nat.le_of_ble_eq_true rfl, Nat.le_of_ble_eq_true rfl⟩) rfl rfl rfl rfl (Nat.le_of_ble_eq_true rfl) dX4_readLumbago_13 (fun r11 σ10 h => ?_)
    exact j_zret C dX4_readLumbago_16 h.1 h.2
def wp_X4_readWorks (σ : Mem) (Q : Int32 → Mem → Prop) : Prop :=
  ((σ.1 1 16) = 0 → ∀ σ2 : Mem, σ2 = st1 σ 1 16 (1 : Int32) → wp_X4_take σ2 (fun r4 σ3 => (r4 = 0 → Q (0 : Int32) σ3) ∧ (¬ r4 = 0 → wp_X4_isNumberWithin (0 : Int32) (99 : Int32) σ3 (fun r7 σ6 => (¬ r7 = 0 → ∀ σ9 : Mem, σ9 = st1 σ6 5 4 (σ6.1 1 9) → Q (1 : Int32) σ9) ∧ (r7 = 0 → Q (0 : Int32) σ6))))) ∧ (¬ (σ.1 1 16) = 0 → wp_X4_fail (4 : Int32) ((σ.1 1 7)) σ (fun r11 σ10 => (r11 = 0 ∨ r11 = 1) ∧ Q r11 σ10))
theorem in_X4_readWorks_X0 : ∀ w ∈ wsX00, w ∈ wsX4_readWorks := fun _ h => List.mem_cons_of_mem _ (List.mem_append_right _ h)
theorem in_X4_readWorks_X4 : ∀ w ∈ wsX40, w ∈ wsX4_readWorks := fun _ h => List.mem_cons_of_mem _ (List.mem_append_left _ (List.mem_append_right _ h))
def rmX4_readWorks : Room := { frames := 3, cells := 0, slots := 0, locals := 63 }
theorem hdX4_readWorks : yX4_readWorks.cls = RX4 ∧ yX4_readWorks.cls ≠ "java/lang/invoke/MethodHandle" ∧ yX4_readWorks.cls ≠ "java/lang/invoke/VarHandle" ∧ (parseMethodDescriptor yX4_readWorks.desc).map (fun d => d.parameters.length) = some 0 := by decide +kernel
set_option maxHeartbeats 4000000 in
set_option maxRecDepth 100000 in
theorem c_X4_readWorks {l : Launch} {E : EE}   {σ : Mem} {Q : Int32 → Mem → Prop} (h : wp_X4_readWorks  σ Q) : CtI l yX4_readWorks wsX4_readWorks rmX4_readWorks E [.ref (eA E 1)] σ Q := by
  refine metI (cc := cX4_readWorks) (nL := 1) (ret := (some .boolean)) (lv := [(0, .ref (eA E 1))]) (by decide) rfl (Nat.le_of_ble_eq_true rfl) rfl ?_
  intro p e s m args below meth c C
  unfold wp_X4_readWorks at h
  refine j_aload_n C 0 dX4_readWorks_0 rfl 0 rfl ?_
  refine j_getI C 1 16 rfl rfl rfl in_X4_readWorks_X4 (by decide) (by decide +kernel) dX4_readWorks_1 ?_
  refine j_if_eq C 17 dX4_readWorks_4 (by decide) (fun c1 => ?_) (fun c1 => ?_)
  · replace h := h.1 c1
    refine j_aload_n C 0 dX4_readWorks_17 rfl 0 rfl ?_
    refine j_iconst (v := (1 : Int32)) C dX4_readWorks_18 (by decide) ?_
    refine j_put C 1 16 rfl rfl rfl in_X4_readWorks_X4 tyX4 tyX4_ok nmX4 (by decide) (by decide +kernel) rfl rfl rfl rfl dX4_readWorks_19 ?_
    refine j_mem (fun σ2 eσ2 => ?_)
    replace h := h σ2 eσ2
    refine j_aload_n C 0 dX4_readWorks_22 rfl 0 rfl ?_
    refine j_callVI (As := []) (rest := []) C 1 (c_X4_take h) (cwV 0 C.2.2.2.2.2.1 gX4_readWorks_X4_take rfl rfl rfl hdX4_take ⟨Nat.le_of_ble_eq_true rfl, Nat.le_of_ble_eq_true rfl⟩) rfl rfl rfl rfl (Nat.le_of_ble_eq_true rfl) dX4_readWorks_23 (fun r4 σ3 h => ?_)
    refine j_if_eq C 39 dX4_readWorks_26 (by decide) (fun c5 => ?_) (fun c5 => ?_)
    · replace h := h.1 c5
      refine j_iconst (v := (0 : Int32)) C dX4_readWorks_39 (by decide) ?_
      exact j_zret C dX4_readWorks_40 (Or.inl rfl) h
    · replace h := h.2 c5
      refine j_aload_n C 0 dX4_readWorks_29 rfl 0 rfl ?_
      refine j_iconst (v := (0 : Int32)) C dX4_readWorks_30 (by decide) ?_
      refine j_bipush (v := (99 : Int32)) C dX4_readWorks_31 (by decide) ?_
      refine j_callVI (As := [.int (0 : Int32), .int (99 : Int32)]) (rest := []) C 1 (c_X4_isNumberWithin h) (cwV 2 C.2.2.2.2.2.1 gX4_readWorks_X4_isNumberWithin rfl rfl rfl hdX4_isNumberWithin ⟨Nat.le_of_ble_eq_true rfl, Nat.le_of_ble_eq_true rfl⟩) rfl rfl rfl rfl (Nat.le_of_ble_eq_true rfl) dX4_readWorks_33 (fun r7 σ6 h => ?_)
      refine j_if_ne C 41 dX4_readWorks_36 (by decide) (fun c8 => ?_) (fun c8 => ?_)
      · replace h := h.1 c8
        refine j_aload_n C 0 dX4_readWorks_41 rfl 0 rfl ?_
        refine j_getR C 5 1 2 rfl rfl rfl in_X4_readWorks_X4 (by decide) (by decide +kernel) dX4_readWorks_42 ?_
        refine j_aload_n C 0 dX4_readWorks_45 rfl 0 rfl ?_
        refine j_getI C 1 9 rfl rfl rfl in_X4_readWorks_X4 (by decide) (by decide +kernel) dX4_readWorks_46 ?_
        refine j_put C 5 4 (shp_dyn (rfl)) rfl rfl in_X4_readWorks_X0 tyX0 tyX0_ok nmX0 (by decide) (by decide +kernel) rfl rfl rfl rfl dX4_readWorks_49 ?_
        refine j_mem (fun σ9 eσ9 => ?_)
        replace h := h σ9 eσ9
        refine j_iconst (v := (1 : Int32)) C dX4_readWorks_52 (by decide) ?_
        exact j_zret C dX4_readWorks_53 (Or.inr rfl) h
      · replace h := h.2 c8
        refine j_iconst (v := (0 : Int32)) C dX4_readWorks_39 (by decide) ?_
        exact j_zret C dX4_readWorks_40 (Or.inl rfl) h
  · replace h := h.2 c1
    refine j_aload_n C 0 dX4_readWorks_7 rfl 0 rfl ?_
    refine j_iconst (v := (4 : Int32)) C dX4_readWorks_8 (by decide) ?_
    refine j_aload_n C 0 dX4_readWorks_9 rfl 0 rfl ?_
    refine j_getI C 1 7 rfl rfl rfl in_X4_readWorks_X4 (by decide) (by decide +kernel) dX4_readWorks_10 ?_
    refine j_callVI (As := [.int (4 : Int32), .int (σ.1 1 7)]) (rest := []) C 1 (c_X4_fail h) (cwV 2 C.2.2.2.2.2.1 gX4_readWorks_X4_fail rfl rfl rfl hdX4_fail ⟨Nat.le_of_ble_eq_true rfl, Nat.le_of_ble_eq_true rfl⟩) rfl rfl rfl rfl (Nat.le_of_ble_eq_true rfl) dX4_readWorks_13 (fun r11 σ10 h => ?_)
    exact j_zret C dX4_readWorks_16 h.1 h.2
def wp_X4_readLine (σ : Mem) (Q : Int32 → Mem → Prop) : Prop :=
  ∀ (P120 : Mem → Prop),
  (∀ (σ : Mem), (Q (0 : Int32) σ) → P120 σ) →
  ((σ.1 1 6) = (1 : Int32) → wp_X4_kindNamed σ (fun r3 σ2 => (r3 = (-4 : Int32) → wp_X4_isNamed 4 σ2 (fun r6 σ5 => (r6 = 0 → wp_X4_isNamed 5 σ5 (fun r9 σ8 => (r9 = 0 → wp_X4_isNamed 6 σ8 (fun r12 σ11 => (r12 = 0 → wp_X4_fail (2 : Int32) ((σ11.1 1 7)) σ11 (fun r15 σ14 => (r15 = 0 ∨ r15 = 1) ∧ Q r15 σ14)) ∧ (¬ r12 = 0 → wp_X4_readWorks σ11 (fun r17 σ16 => (r17 = 0 → P120 σ16) ∧ (¬ r17 = 0 → wp_X4_takeStop σ16 (fun r20 σ19 => (r20 = 0 → P120 σ19) ∧ (¬ r20 = 0 → Q (1 : Int32) σ19))))))) ∧ (¬ r9 = 0 → wp_X4_readLumbago σ8 (fun r23 σ22 => (r23 = 0 → Q (0 : Int32) σ22) ∧ (¬ r23 = 0 → wp_X4_takeStop σ22 (fun r26 σ25 => (r26 = 0 → Q (0 : Int32) σ25) ∧ (¬ r26 = 0 → Q (1 : Int32) σ25))))))) ∧ (¬ r6 = 0 → wp_X4_readFirsts σ5 (fun r29 σ28 => (r29 = 0 ∨ r29 = 1) ∧ Q r29 σ28)))) ∧ (¬ r3 = (-4 : Int32) → wp_X4_readHeir r3 σ2 (fun r31 σ30 => (r31 = 0 → Q (0 : Int32) σ30) ∧ (¬ r31 = 0 → wp_X4_takeStop σ30 (fun r34 σ33 => (r34 = 0 → Q (0 : Int32) σ33) ∧ (¬ r34 = 0 → Q (1 : Int32) σ33))))))) ∧ (¬ (σ.1 1 6) = (1 : Int32) → wp_X4_fail (2 : Int32) ((σ.1 1 7)) σ (fun r37 σ36 => (r37 = 0 ∨ r37 = 1) ∧ Q r37 σ36))
theorem in_X4_readLine_X4 : ∀ w ∈ wsX40, w ∈ wsX4_readLine := fun _ h => List.mem_cons_of_mem _ (List.mem_append_left _ (List.mem_append_right _ h))
def rmX4_readLine : Room := { frames := 6, cells := 0, slots := 0, locals := 127 }
theorem hdX4_readLine : yX4_readLine.cls = RX4 ∧ yX4_readLine.cls ≠ "java/lang/invoke/MethodHandle" ∧ yX4_readLine.cls ≠ "java/lang/invoke/VarHandle" ∧ (parseMethodDescriptor yX4_readLine.desc).map (fun d => d.parameters.length) = some 0 := by decide +kernel
set_option maxHeartbeats 4000000 in
set_option maxRecDepth 100000 in
theorem c_X4_readLine {l : Launch} {E : EE}   {σ : Mem} {Q : Int32 → Mem → Prop} (h : wp_X4_readLine  σ Q) : CtI l yX4_readLine wsX4_readLine rmX4_readLine E [.ref (eA E 1)] σ Q := by
  refine metI (cc := cX4_readLine) (nL := 2) (ret := (some .boolean)) (lv := [(0, .ref (eA E 1))]) (by decide) rfl (Nat.le_of_ble_eq_true rfl) rfl ?_
  intro p e s m args below meth c C
  unfold wp_X4_readLine at h
  replace h := h (fun (σ : Mem) => J E p l e rmX4_readLine s m args below meth c (QI E below args s Q) 2 120 [] [] σ) (by
    intro σ h
    refine j_iconst (v := (0 : Int32)) C dX4_readLine_120 (by decide) ?_
    refine j_goto C 133 dX4_readLine_121 (by decide) ?_
    exact j_zret C dX4_readLine_133 (Or.inl rfl) h)
  refine j_aload_n C 0 dX4_readLine_0 rfl 0 rfl ?_
  refine j_getI C 1 6 rfl rfl rfl in_X4_readLine_X4 (by decide) (by decide +kernel) dX4_readLine_1 ?_
  refine j_iconst (v := (1 : Int32)) C dX4_readLine_4 (by decide) ?_
  refine j_icmp_eq C 18 dX4_readLine_5 (by decide) (fun c1 => ?_) (fun c1 => ?_)
  · replace h := h.1 c1
    refine j_aload_n C 0 dX4_readLine_18 rfl 0 rfl ?_
    refine j_callVI (As := []) (rest := []) C 1 (c_X4_kindNamed h) (cwV 0 C.2.2.2.2.2.1 gX4_readLine_X4_kindNamed rfl rfl rfl hdX4_kindNamed ⟨Nat.le_of_ble_eq_true rfl, Nat.le_of_ble_eq_true rfl⟩) rfl rfl rfl rfl (Nat.le_of_ble_eq_true rfl) dX4_readLine_19 (fun r3 σ2 h => ?_)
    refine j_istore_n (lv' := [(1, .int r3), (0, .ref (eA E 1))]) C 1 dX4_readLine_22 rfl (by decide) rfl ?_
    refine j_iload_n C 1 dX4_readLine_23 rfl 0 rfl ?_
    refine j_bipush (v := (-4 : Int32)) C dX4_readLine_24 (by decide) ?_
    refine j_icmp_eq C 50 dX4_readLine_26 (by decide) (fun c4 => ?_) (fun c4 => ?_)
    · replace h := h.1 c4
      refine j_aload_n C 0 dX4_readLine_50 rfl 1 rfl ?_
      refine j_ldcS C 4 (by decide) rfl dX4_readLine_51 ?_
      refine j_callVI (As := [.ref (eX E (10 + 4))]) (rest := []) C 1 (c_X4_isNamed (by decide) h) (cwV 1 C.2.2.2.2.2.1 gX4_readLine_X4_isNamed rfl rfl rfl hdX4_isNamed ⟨Nat.le_of_ble_eq_true rfl, Nat.le_of_ble_eq_true rfl⟩) rfl rfl rfl rfl (Nat.le_of_ble_eq_true rfl) dX4_readLine_53 (fun r6 σ5 h => ?_)
      refine j_if_eq C 64 dX4_readLine_56 (by decide) (fun c7 => ?_) (fun c7 => ?_)
      · replace h := h.1 c7
        refine j_aload_n C 0 dX4_readLine_64 rfl 1 rfl ?_
        refine j_ldcS C 5 (by decide) rfl dX4_readLine_65 ?_
        refine j_callVI (As := [.ref (eX E (10 + 5))]) (rest := []) C 1 (c_X4_isNamed (by decide) h) (cwV 1 C.2.2.2.2.2.1 gX4_readLine_X4_isNamed rfl rfl rfl hdX4_isNamed ⟨Nat.le_of_ble_eq_true rfl, Nat.le_of_ble_eq_true rfl⟩) rfl rfl rfl rfl (Nat.le_of_ble_eq_true rfl) dX4_readLine_67 (fun r9 σ8 h => ?_)
        refine j_if_eq C 93 dX4_readLine_70 (by decide) (fun c10 => ?_) (fun c10 => ?_)
        · replace h := h.1 c10
          refine j_aload_n C 0 dX4_readLine_93 rfl 1 rfl ?_
          refine j_ldcS C 6 (by decide) rfl dX4_readLine_94 ?_
          refine j_callVI (As := [.ref (eX E (10 + 6))]) (rest := []) C 1 (c_X4_isNamed (by decide) h) (cwV 1 C.2.2.2.2.2.1 gX4_readLine_X4_isNamed rfl rfl rfl hdX4_isNamed ⟨Nat.le_of_ble_eq_true rfl, Nat.le_of_ble_eq_true rfl⟩) rfl rfl rfl rfl (Nat.le_of_ble_eq_true rfl) dX4_readLine_96 (fun r12 σ11 h => ?_)
          refine j_if_eq C 124 dX4_readLine_99 (by decide) (fun c13 => ?_) (fun c13 => ?_)
          · replace h := h.1 c13
            refine j_aload_n C 0 dX4_readLine_124 rfl 1 rfl ?_
            refine j_iconst (v := (2 : Int32)) C dX4_readLine_125 (by decide) ?_
            refine j_aload_n C 0 dX4_readLine_126 rfl 1 rfl ?_
            refine j_getI C 1 7 rfl rfl rfl in_X4_readLine_X4 (by decide) (by decide +kernel) dX4_readLine_127 ?_
            refine j_callVI (As := [.int (2 : Int32), .int (σ11.1 1 7)]) (rest := []) C 1 (c_X4_fail h) (cwV 2 C.2.2.2.2.2.1 gX4_readLine_X4_fail rfl rfl rfl hdX4_fail ⟨Nat.le_of_ble_eq_true rfl, Nat.le_of_ble_eq_true rfl⟩) rfl rfl rfl rfl (Nat.le_of_ble_eq_true rfl) dX4_readLine_130 (fun r15 σ14 h => ?_)
            exact j_zret C dX4_readLine_133 h.1 h.2
          · replace h := h.2 c13
            refine j_aload_n C 0 dX4_readLine_102 rfl 1 rfl ?_
            refine j_callVI (As := []) (rest := []) C 1 (c_X4_readWorks h) (cwV 0 C.2.2.2.2.2.1 gX4_readLine_X4_readWorks rfl rfl rfl hdX4_readWorks ⟨Nat.le_of_ble_eq_true rfl, Nat.le_of_ble_eq_true rfl⟩) rfl rfl rfl rfl (Nat.le_of_ble_eq_true rfl) dX4_readLine_103 (fun r17 σ16 h => ?_)
            refine j_if_eq C 120 dX4_readLine_106 (by decide) (fun c18 => ?_) (fun c18 => ?_)
            · replace h := h.1 c18
              exact j_sub (lv' := []) [] rfl h
            · replace h := h.2 c18
              refine j_aload_n C 0 dX4_readLine_109 rfl 1 rfl ?_
              refine j_callVI (As := []) (rest := []) C 1 (c_X4_takeStop h) (cwV 0 C.2.2.2.2.2.1 gX4_readLine_X4_takeStop rfl rfl rfl hdX4_takeStop ⟨Nat.le_of_ble_eq_true rfl, Nat.le_of_ble_eq_true rfl⟩) rfl rfl rfl rfl (Nat.le_of_ble_eq_true rfl) dX4_readLine_110 (fun r20 σ19 h => ?_)
              refine j_if_eq C 120 dX4_readLine_113 (by decide) (fun c21 => ?_) (fun c21 => ?_)
              · replace h := h.1 c21
                exact j_sub (lv' := []) [] rfl h
              · replace h := h.2 c21
                refine j_iconst (v := (1 : Int32)) C dX4_readLine_116 (by decide) ?_
                refine j_goto C 133 dX4_readLine_117 (by decide) ?_
                exact j_zret C dX4_readLine_133 (Or.inr rfl) h
        · replace h := h.2 c10
          refine j_aload_n C 0 dX4_readLine_73 rfl 1 rfl ?_
          refine j_callVI (As := []) (rest := []) C 1 (c_X4_readLumbago h) (cwV 0 C.2.2.2.2.2.1 gX4_readLine_X4_readLumbago rfl rfl rfl hdX4_readLumbago ⟨Nat.le_of_ble_eq_true rfl, Nat.le_of_ble_eq_true rfl⟩) rfl rfl rfl rfl (Nat.le_of_ble_eq_true rfl) dX4_readLine_74 (fun r23 σ22 h => ?_)
          refine j_if_eq C 91 dX4_readLine_77 (by decide) (fun c24 => ?_) (fun c24 => ?_)
          · replace h := h.1 c24
            refine j_iconst (v := (0 : Int32)) C dX4_readLine_91 (by decide) ?_
            exact j_zret C dX4_readLine_92 (Or.inl rfl) h
          · replace h := h.2 c24
            refine j_aload_n C 0 dX4_readLine_80 rfl 1 rfl ?_
            refine j_callVI (As := []) (rest := []) C 1 (c_X4_takeStop h) (cwV 0 C.2.2.2.2.2.1 gX4_readLine_X4_takeStop rfl rfl rfl hdX4_takeStop ⟨Nat.le_of_ble_eq_true rfl, Nat.le_of_ble_eq_true rfl⟩) rfl rfl rfl rfl (Nat.le_of_ble_eq_true rfl) dX4_readLine_81 (fun r26 σ25 h => ?_)
            refine j_if_eq C 91 dX4_readLine_84 (by decide) (fun c27 => ?_) (fun c27 => ?_)
            · replace h := h.1 c27
              refine j_iconst (v := (0 : Int32)) C dX4_readLine_91 (by decide) ?_
              exact j_zret C dX4_readLine_92 (Or.inl rfl) h
            · replace h := h.2 c27
              refine j_iconst (v := (1 : Int32)) C dX4_readLine_87 (by decide) ?_
              refine j_goto C 92 dX4_readLine_88 (by decide) ?_
              exact j_zret C dX4_readLine_92 (Or.inr rfl) h
      · replace h := h.2 c7
        refine j_aload_n C 0 dX4_readLine_59 rfl 1 rfl ?_
        refine j_callVI (As := []) (rest := []) C 1 (c_X4_readFirsts h) (cwV 0 C.2.2.2.2.2.1 gX4_readLine_X4_readFirsts rfl rfl rfl hdX4_readFirsts ⟨Nat.le_of_ble_eq_true rfl, Nat.le_of_ble_eq_true rfl⟩) rfl rfl rfl rfl (Nat.le_of_ble_eq_true rfl) dX4_readLine_60 (fun r29 σ28 h => ?_)
        exact j_zret C dX4_readLine_63 h.1 h.2
    · replace h := h.2 c4
      refine j_aload_n C 0 dX4_readLine_29 rfl 1 rfl ?_
      refine j_iload_n C 1 dX4_readLine_30 rfl 0 rfl ?_
      refine j_callVI (As := [.int r3]) (rest := []) C 1 (c_X4_readHeir h) (cwV 1 C.2.2.2.2.2.1 gX4_readLine_X4_readHeir rfl rfl rfl hdX4_readHeir ⟨Nat.le_of_ble_eq_true rfl, Nat.le_of_ble_eq_true rfl⟩) rfl rfl rfl rfl (Nat.le_of_ble_eq_true rfl) dX4_readLine_31 (fun r31 σ30 h => ?_)
      refine j_if_eq C 48 dX4_readLine_34 (by decide) (fun c32 => ?_) (fun c32 => ?_)
      · replace h := h.1 c32
        refine j_iconst (v := (0 : Int32)) C dX4_readLine_48 (by decide) ?_
        exact j_zret C dX4_readLine_49 (Or.inl rfl) h
      · replace h := h.2 c32
        refine j_aload_n C 0 dX4_readLine_37 rfl 1 rfl ?_
        refine j_callVI (As := []) (rest := []) C 1 (c_X4_takeStop h) (cwV 0 C.2.2.2.2.2.1 gX4_readLine_X4_takeStop rfl rfl rfl hdX4_takeStop ⟨Nat.le_of_ble_eq_true rfl, Nat.le_of_ble_eq_true rfl⟩) rfl rfl rfl rfl (Nat.le_of_ble_eq_true rfl) dX4_readLine_38 (fun r34 σ33 h => ?_)
        refine j_if_eq C 48 dX4_readLine_41 (by decide) (fun c35 => ?_) (fun c35 => ?_)
        · replace h := h.1 c35
          refine j_iconst (v := (0 : Int32)) C dX4_readLine_48 (by decide) ?_
          exact j_zret C dX4_readLine_49 (Or.inl rfl) h
        · replace h := h.2 c35
          refine j_iconst (v := (1 : Int32)) C dX4_readLine_44 (by decide) ?_
          refine j_goto C 49 dX4_readLine_45 (by decide) ?_
          exact j_zret C dX4_readLine_49 (Or.inr rfl) h
  · replace h := h.2 c1
    refine j_aload_n C 0 dX4_readLine_8 rfl 0 rfl ?_
    refine j_iconst (v := (2 : Int32)) C dX4_readLine_9 (by decide) ?_
    refine j_aload_n C 0 dX4_readLine_10 rfl 0 rfl ?_
    refine j_getI C 1 7 rfl rfl rfl in_X4_readLine_X4 (by decide) (by decide +kernel) dX4_readLine_11 ?_
    refine j_callVI (As := [.int (2 : Int32), .int (σ.1 1 7)]) (rest := []) C 1 (c_X4_fail h) (cwV 2 C.2.2.2.2.2.1 gX4_readLine_X4_fail rfl rfl rfl hdX4_fail ⟨Nat.le_of_ble_eq_true rfl, Nat.le_of_ble_eq_true rfl⟩) rfl rfl rfl rfl (Nat.le_of_ble_eq_true rfl) dX4_readLine_14 (fun r37 σ36 h => ?_)
    exact j_zret C dX4_readLine_17 h.1 h.2
def wp_X4_formRow (σ : Mem) (Q : Mem → Prop) : Prop :=
  ∀ (P2 : Int32 → Mem → Prop) (P46 : Int32 → Mem → Prop) (P82 : Int32 → Int32 → Mem → Prop) (P121 : Int32 → Int32 → Mem → Prop),
  (∀ (x1 : Int32) (σ : Mem), (((σ.1 1 13) ≤ x1 → P46 (0 : Int32) σ) ∧ (¬ (σ.1 1 13) ≤ x1 → vp_in x1 6 ∧ (((σ.1 3 (x1).toNatClampNeg) < (σ.1 5 2) → ∀ v3 : Int32, v3 = x1 + (1 : Int32) → P2 v3 σ) ∧ (¬ (σ.1 3 (x1).toNatClampNeg) < (σ.1 5 2) → wp_X4_fail (6 : Int32) ((σ.1 1 1)) σ (fun r5 σ4 => Q σ4))))) → P2 x1 σ) →
  (∀ (x1 : Int32) (σ : Mem), (((σ.1 1 13) ≤ x1 → ∀ v7 : Int32, v7 = (σ.1 1 13) → P82 v7 (0 : Int32) σ) ∧ (¬ (σ.1 1 13) ≤ x1 → vp_in x1 6 ∧ (vp_in x1 6 ∧ (∀ σ8 : Mem, σ8 = st1 σ (5 + 6) (x1).toNatClampNeg (σ.1 3 (x1).toNatClampNeg) → ∀ v9 : Int32, v9 = x1 + (1 : Int32) → P46 v9 σ8)))) → P46 x1 σ) →
  (∀ (x1 : Int32) (x2 : Int32) (σ : Mem), (((σ.1 5 2) ≤ x2 → Q σ) ∧ (¬ (σ.1 5 2) ≤ x2 → vp_in x2 6 ∧ ((¬ (σ.1 4 (x2).toNatClampNeg) = 0 → P121 x1 x2 σ) ∧ ((σ.1 4 (x2).toNatClampNeg) = 0 → ((6 : Int32) ≤ x1 → P121 x1 x2 σ) ∧ (¬ (6 : Int32) ≤ x1 → vp_in x1 6 ∧ (∀ σ13 : Mem, σ13 = st1 σ (5 + 6) (x1).toNatClampNeg x2 → ∀ v14 : Int32, v14 = x1 + (1 : Int32) → P121 v14 x2 σ13)))))) → P82 x1 x2 σ) →
  (∀ (x1 : Int32) (x2 : Int32) (σ : Mem), (∀ v15 : Int32, v15 = x2 + (1 : Int32) → P82 x1 v15 σ) → P121 x1 x2 σ) →
  P2 (0 : Int32) σ
theorem in_X4_formRow_X0 : ∀ w ∈ wsX00, w ∈ wsX4_formRow := fun _ h => List.mem_cons_of_mem _ (List.mem_append_right _ h)
theorem in_X4_formRow_X4 : ∀ w ∈ wsX40, w ∈ wsX4_formRow := fun _ h => List.mem_cons_of_mem _ (List.mem_append_left _ (List.mem_append_right _ h))
def rmX4_formRow : Room := { frames := 1, cells := 0, slots := 0, locals := 22 }
theorem hdX4_formRow : yX4_formRow.cls = RX4 ∧ yX4_formRow.cls ≠ "java/lang/invoke/MethodHandle" ∧ yX4_formRow.cls ≠ "java/lang/invoke/VarHandle" ∧ (parseMethodDescriptor yX4_formRow.desc).map (fun d => d.parameters.length) = some 0 := by decide +kernel
set_option maxHeartbeats 4000000 in
set_option maxRecDepth 100000 in
theorem c_X4_formRow {l : Launch} {E : EE}   {σ : Mem} {Q : Mem → Prop} (h : wp_X4_formRow  σ Q) : CtV l yX4_formRow wsX4_formRow rmX4_formRow E [.ref (eA E 1)] σ Q := by
  refine metV (cc := cX4_formRow) (nL := 3) (ret := none) (lv := [(0, .ref (eA E 1))]) (by decide) rfl (Nat.le_of_ble_eq_true rfl) rfl ?_
  intro p e s m args below meth c C
  unfold wp_X4_formRow at h
  replace h := h (fun (x1 : Int32) (σ : Mem) => J E p l e rmX4_formRow s m args below meth c (QV E below args s Q) 3 2 [(0, .ref (eA E 1)), (1, .int x1)] [] σ) (fun (x1 : Int32) (σ : Mem) => J E p l e rmX4_formRow s m args below meth c (QV E below args s Q) 3 46 [(0, .ref (eA E 1)), (1, .int x1)] [] σ) (fun (x1 : Int32) (x2 : Int32) (σ : Mem) => J E p l e rmX4_formRow s m args below meth c (QV E below args s Q) 3 82 [(0, .ref (eA E 1)), (1, .int x1), (2, .int x2)] [] σ) (fun (x1 : Int32) (x2 : Int32) (σ : Mem) => J E p l e rmX4_formRow s m args below meth c (QV E below args s Q) 3 121 [(0, .ref (eA E 1)), (1, .int x1), (2, .int x2)] [] σ) (by
    intro x1 σ h
    refine j_iload_n C 1 dX4_formRow_2 rfl 1 rfl ?_
    refine j_aload_n C 0 dX4_formRow_3 rfl 0 rfl ?_
    refine j_getI C 1 13 rfl rfl rfl in_X4_formRow_X4 (by decide) (by decide +kernel) dX4_formRow_4 ?_
    refine j_icmp_ge C 44 dX4_formRow_7 (by decide) (fun c1 => ?_) (fun c1 => ?_)
    · replace h := h.1 c1
      refine j_iconst (v := (0 : Int32)) C dX4_formRow_44 (by decide) ?_
      refine j_istore_n (lv' := [(1, .int (0 : Int32)), (0, .ref (eA E 1))]) C 1 dX4_formRow_45 rfl (by decide) rfl ?_
      exact j_sub (lv' := [(0, .ref (eA E 1)), (1, .int (0 : Int32))]) [1, 0] rfl h
    · replace h := h.2 c1
      refine j_aload_n C 0 dX4_formRow_10 rfl 0 rfl ?_
      refine j_getR C 3 1 11 rfl rfl rfl in_X4_formRow_X4 (by decide) (by decide +kernel) dX4_formRow_11 ?_
      refine j_iload_n C 1 dX4_formRow_14 rfl 1 rfl ?_
      refine j_iald C 3 rfl dX4_formRow_15 h.1 ?_
      replace h := h.2
      refine j_aload_n C 0 dX4_formRow_16 rfl 0 rfl ?_
      refine j_getR C 5 1 2 rfl rfl rfl in_X4_formRow_X4 (by decide) (by decide +kernel) dX4_formRow_17 ?_
      refine j_getI C 5 2 (shp_dyn (rfl)) rfl rfl in_X4_formRow_X0 (by decide) (by decide +kernel) dX4_formRow_20 ?_
      refine j_icmp_lt C 38 dX4_formRow_23 (by decide) (fun c2 => ?_) (fun c2 => ?_)
      · replace h := h.1 c2
        obtain ⟨v3, ev3⟩ : ∃ y : Int32, y = x1 + (1 : Int32) := ⟨_, rfl⟩
        replace h := h v3 ev3
        refine j_iinc (v := v3) (lv' := [(1, .int v3), (0, .ref (eA E 1))]) C 1 dX4_formRow_38 1 rfl (by rw [ev3]; rfl) (by decide) rfl ?_
        refine j_goto C 2 dX4_formRow_41 (by decide) ?_
        exact j_sub (lv' := [(0, .ref (eA E 1)), (1, .int v3)]) [1, 0] rfl h
      · replace h := h.2 c2
        refine j_aload_n C 0 dX4_formRow_26 rfl 0 rfl ?_
        refine j_bipush (v := (6 : Int32)) C dX4_formRow_27 (by decide) ?_
        refine j_aload_n C 0 dX4_formRow_29 rfl 0 rfl ?_
        refine j_getI C 1 1 rfl rfl rfl in_X4_formRow_X4 (by decide) (by decide +kernel) dX4_formRow_30 ?_
        refine j_callVI (As := [.int (6 : Int32), .int (σ.1 1 1)]) (rest := []) C 1 (c_X4_fail h) (cwV 2 C.2.2.2.2.2.1 gX4_formRow_X4_fail rfl rfl rfl hdX4_fail ⟨Nat.le_of_ble_eq_true rfl, Nat.le_of_ble_eq_true rfl⟩) rfl rfl rfl rfl (Nat.le_of_ble_eq_true rfl) dX4_formRow_33 (fun r5 σ4 h => ?_)
        refine j_pop C dX4_formRow_36 rfl ?_
        exact j_vret C dX4_formRow_37 h) (by
    intro x1 σ h
    refine j_iload_n C 1 dX4_formRow_46 rfl 1 rfl ?_
    refine j_aload_n C 0 dX4_formRow_47 rfl 0 rfl ?_
    refine j_getI C 1 13 rfl rfl rfl in_X4_formRow_X4 (by decide) (by decide +kernel) dX4_formRow_48 ?_
    refine j_icmp_ge C 75 dX4_formRow_51 (by decide) (fun c6 => ?_) (fun c6 => ?_)
    · replace h := h.1 c6
      refine j_aload_n C 0 dX4_formRow_75 rfl 0 rfl ?_
      refine j_getI C 1 13 rfl rfl rfl in_X4_formRow_X4 (by decide) (by decide +kernel) dX4_formRow_76 ?_
      refine j_topi (fun v7 ev7 => ?_)
      replace h := h v7 ev7
      refine j_istore_n (lv' := [(1, .int v7), (0, .ref (eA E 1))]) C 1 dX4_formRow_79 rfl (by decide) rfl ?_
      refine j_iconst (v := (0 : Int32)) C dX4_formRow_80 (by decide) ?_
      refine j_istore_n (lv' := [(2, .int (0 : Int32)), (1, .int v7), (0, .ref (eA E 1))]) C 2 dX4_formRow_81 rfl (by decide) rfl ?_
      exact j_sub (lv' := [(0, .ref (eA E 1)), (1, .int v7), (2, .int (0 : Int32))]) [2, 1, 0] rfl h
    · replace h := h.2 c6
      refine j_aload_n C 0 dX4_formRow_54 rfl 0 rfl ?_
      refine j_getR C 5 1 2 rfl rfl rfl in_X4_formRow_X4 (by decide) (by decide +kernel) dX4_formRow_55 ?_
      refine j_getR C (5 + 6) 5 1 (shp_dyn (rfl)) rfl rfl in_X4_formRow_X0 (by decide) (by decide +kernel) dX4_formRow_58 ?_
      refine j_iload_n C 1 dX4_formRow_61 rfl 1 rfl ?_
      refine j_aload_n C 0 dX4_formRow_62 rfl 0 rfl ?_
      refine j_getR C 3 1 11 rfl rfl rfl in_X4_formRow_X4 (by decide) (by decide +kernel) dX4_formRow_63 ?_
      refine j_iload_n C 1 dX4_formRow_66 rfl 1 rfl ?_
      refine j_iald C 3 rfl dX4_formRow_67 h.1 ?_
      replace h := h.2
      refine j_iast C (5 + 6) (shp_dynL (rfl)) dX4_formRow_68 h.1 ?_
      replace h := h.2
      refine j_mem (fun σ8 eσ8 => ?_)
      replace h := h σ8 eσ8
      obtain ⟨v9, ev9⟩ : ∃ y : Int32, y = x1 + (1 : Int32) := ⟨_, rfl⟩
      replace h := h v9 ev9
      refine j_iinc (v := v9) (lv' := [(1, .int v9), (0, .ref (eA E 1))]) C 1 dX4_formRow_69 1 rfl (by rw [ev9]; rfl) (by decide) rfl ?_
      refine j_goto C 46 dX4_formRow_72 (by decide) ?_
      exact j_sub (lv' := [(0, .ref (eA E 1)), (1, .int v9)]) [1, 0] rfl h) (by
    intro x1 x2 σ h
    refine j_iload_n C 2 dX4_formRow_82 rfl 2 rfl ?_
    refine j_aload_n C 0 dX4_formRow_83 rfl 0 rfl ?_
    refine j_getR C 5 1 2 rfl rfl rfl in_X4_formRow_X4 (by decide) (by decide +kernel) dX4_formRow_84 ?_
    refine j_getI C 5 2 (shp_dyn (rfl)) rfl rfl in_X4_formRow_X0 (by decide) (by decide +kernel) dX4_formRow_87 ?_
    refine j_icmp_ge C 127 dX4_formRow_90 (by decide) (fun c10 => ?_) (fun c10 => ?_)
    · replace h := h.1 c10
      exact j_vret C dX4_formRow_127 h
    · replace h := h.2 c10
      refine j_aload_n C 0 dX4_formRow_93 rfl 0 rfl ?_
      refine j_getR C 4 1 12 rfl rfl rfl in_X4_formRow_X4 (by decide) (by decide +kernel) dX4_formRow_94 ?_
      refine j_iload_n C 2 dX4_formRow_97 rfl 2 rfl ?_
      refine j_zald C 4 rfl dX4_formRow_98 h.1 ?_
      replace h := h.2
      refine j_if_ne C 121 dX4_formRow_99 (by decide) (fun c11 => ?_) (fun c11 => ?_)
      · replace h := h.1 c11
        exact j_sub (lv' := [(0, .ref (eA E 1)), (1, .int x1), (2, .int x2)]) [0, 1, 2] rfl h
      · replace h := h.2 c11
        refine j_iload_n C 1 dX4_formRow_102 rfl 1 rfl ?_
        refine j_bipush (v := (6 : Int32)) C dX4_formRow_103 (by decide) ?_
        refine j_icmp_ge C 121 dX4_formRow_105 (by decide) (fun c12 => ?_) (fun c12 => ?_)
        · replace h := h.1 c12
          exact j_sub (lv' := [(0, .ref (eA E 1)), (1, .int x1), (2, .int x2)]) [0, 1, 2] rfl h
        · replace h := h.2 c12
          refine j_aload_n C 0 dX4_formRow_108 rfl 0 rfl ?_
          refine j_getR C 5 1 2 rfl rfl rfl in_X4_formRow_X4 (by decide) (by decide +kernel) dX4_formRow_109 ?_
          refine j_getR C (5 + 6) 5 1 (shp_dyn (rfl)) rfl rfl in_X4_formRow_X0 (by decide) (by decide +kernel) dX4_formRow_112 ?_
          refine j_iload_n C 1 dX4_formRow_115 rfl 1 rfl ?_
          refine j_iload_n C 2 dX4_formRow_116 rfl 2 rfl ?_
          refine j_iast C (5 + 6) (shp_dynL (rfl)) dX4_formRow_117 h.1 ?_
          replace h := h.2
          refine j_mem (fun σ13 eσ13 => ?_)
          replace h := h σ13 eσ13
          obtain ⟨v14, ev14⟩ : ∃ y : Int32, y = x1 + (1 : Int32) := ⟨_, rfl⟩
          replace h := h v14 ev14
          refine j_iinc (v := v14) (lv' := [(1, .int v14), (0, .ref (eA E 1)), (2, .int x2)]) C 1 dX4_formRow_118 1 rfl (by rw [ev14]; rfl) (by decide) rfl ?_
          exact j_sub (lv' := [(0, .ref (eA E 1)), (1, .int v14), (2, .int x2)]) [1, 0, 2] rfl h) (by
    intro x1 x2 σ h
    obtain ⟨v15, ev15⟩ : ∃ y : Int32, y = x2 + (1 : Int32) := ⟨_, rfl⟩
    replace h := h v15 ev15
    refine j_iinc (v := v15) (lv' := [(2, .int v15), (0, .ref (eA E 1)), (1, .int x1)]) C 2 dX4_formRow_121 2 rfl (by rw [ev15]; rfl) (by decide) rfl ?_
    refine j_goto C 82 dX4_formRow_124 (by decide) ?_
    exact j_sub (lv' := [(0, .ref (eA E 1)), (1, .int x1), (2, .int v15)]) [1, 2, 0] rfl h)
  refine j_iconst (v := (0 : Int32)) C dX4_formRow_0 (by decide) ?_
  refine j_istore_n (lv' := [(1, .int (0 : Int32)), (0, .ref (eA E 1))]) C 1 dX4_formRow_1 rfl (by decide) rfl ?_
  exact j_sub (lv' := [(0, .ref (eA E 1)), (1, .int (0 : Int32))]) [1, 0] rfl h
def wp_X4_readAll (σ : Mem) (Q : Mem → Prop) : Prop :=
  ∀ (P6 : Int32 → Mem → Prop) (P56 : Mem → Prop),
  (∀ (x1 : Int32) (σ : Mem), (((σ.1 1 1) < x1 → P56 σ) ∧ (¬ (σ.1 1 1) < x1 → wp_X4_take σ (fun r3 σ2 => (¬ r3 = 0 → (¬ (σ2.1 1 6) = 0 → wp_X4_readLine σ2 (fun r7 σ6 => (¬ r7 = 0 → ∀ σ9 : Mem, σ9 = st1 σ6 1 3 ((σ6.1 1 3) + (1 : Int32)) → ∀ v10 : Int32, v10 = x1 + (1 : Int32) → P6 v10 σ9) ∧ (r7 = 0 → Q σ6))) ∧ ((σ2.1 1 6) = 0 → P56 σ2)) ∧ (r3 = 0 → Q σ2)))) → P6 x1 σ) →
  (∀ (σ : Mem), (wp_X4_formRow σ (fun σ11 => Q σ11)) → P56 σ) →
  wp_X4_startAnew σ (fun σ12 => P6 (0 : Int32) σ12)
theorem in_X4_readAll_X4 : ∀ w ∈ wsX40, w ∈ wsX4_readAll := fun _ h => List.mem_cons_of_mem _ (List.mem_append_left _ (List.mem_append_right _ h))
def rmX4_readAll : Room := { frames := 7, cells := 0, slots := 0, locals := 148 }
theorem hdX4_readAll : yX4_readAll.cls = RX4 ∧ yX4_readAll.cls ≠ "java/lang/invoke/MethodHandle" ∧ yX4_readAll.cls ≠ "java/lang/invoke/VarHandle" ∧ (parseMethodDescriptor yX4_readAll.desc).map (fun d => d.parameters.length) = some 0 := by decide +kernel
set_option maxHeartbeats 4000000 in
set_option maxRecDepth 100000 in
theorem c_X4_readAll {l : Launch} {E : EE}   {σ : Mem} {Q : Mem → Prop} (h : wp_X4_readAll  σ Q) : CtV l yX4_readAll wsX4_readAll rmX4_readAll E [.ref (eA E 1)] σ Q := by
  refine metV (cc := cX4_readAll) (nL := 2) (ret := none) (lv := [(0, .ref (eA E 1))]) (by decide) rfl (Nat.le_of_ble_eq_true rfl) rfl ?_
  intro p e s m args below meth c C
  unfold wp_X4_readAll at h
  replace h := h (fun (x1 : Int32) (σ : Mem) => J E p l e rmX4_readAll s m args below meth c (QV E below args s Q) 2 6 [(0, .ref (eA E 1)), (1, .int x1)] [] σ) (fun (σ : Mem) => J E p l e rmX4_readAll s m args below meth c (QV E below args s Q) 2 56 [(0, .ref (eA E 1))] [] σ) (by
    intro x1 σ h
    refine j_iload_n C 1 dX4_readAll_6 rfl 1 rfl ?_
    refine j_aload_n C 0 dX4_readAll_7 rfl 0 rfl ?_
    refine j_getI C 1 1 rfl rfl rfl in_X4_readAll_X4 (by decide) (by decide +kernel) dX4_readAll_8 ?_
    refine j_icmp_gt C 56 dX4_readAll_11 (by decide) (fun c1 => ?_) (fun c1 => ?_)
    · replace h := h.1 c1
      exact j_sub (lv' := [(0, .ref (eA E 1))]) [0] rfl h
    · replace h := h.2 c1
      refine j_aload_n C 0 dX4_readAll_14 rfl 0 rfl ?_
      refine j_callVI (As := []) (rest := []) C 1 (c_X4_take h) (cwV 0 C.2.2.2.2.2.1 gX4_readAll_X4_take rfl rfl rfl hdX4_take ⟨Nat.le_of_ble_eq_true rfl, Nat.le_of_ble_eq_true rfl⟩) rfl rfl rfl rfl (Nat.le_of_ble_eq_true rfl) dX4_readAll_15 (fun r3 σ2 h => ?_)
      refine j_if_ne C 22 dX4_readAll_18 (by decide) (fun c4 => ?_) (fun c4 => ?_)
      · replace h := h.1 c4
        refine j_aload_n C 0 dX4_readAll_22 rfl 0 rfl ?_
        refine j_getI C 1 6 rfl rfl rfl in_X4_readAll_X4 (by decide) (by decide +kernel) dX4_readAll_23 ?_
        refine j_if_ne C 32 dX4_readAll_26 (by decide) (fun c5 => ?_) (fun c5 => ?_)
        · replace h := h.1 c5
          refine j_aload_n C 0 dX4_readAll_32 rfl 0 rfl ?_
          refine j_callVI (As := []) (rest := []) C 1 (c_X4_readLine h) (cwV 0 C.2.2.2.2.2.1 gX4_readAll_X4_readLine rfl rfl rfl hdX4_readLine ⟨Nat.le_of_ble_eq_true rfl, Nat.le_of_ble_eq_true rfl⟩) rfl rfl rfl rfl (Nat.le_of_ble_eq_true rfl) dX4_readAll_33 (fun r7 σ6 h => ?_)
          refine j_if_ne C 40 dX4_readAll_36 (by decide) (fun c8 => ?_) (fun c8 => ?_)
          · replace h := h.1 c8
            refine j_aload_n C 0 dX4_readAll_40 rfl 0 rfl ?_
            refine j_dup C dX4_readAll_41 rfl ?_
            refine j_getI C 1 3 rfl rfl rfl in_X4_readAll_X4 (by decide) (by decide +kernel) dX4_readAll_42 ?_
            refine j_iconst (v := (1 : Int32)) C dX4_readAll_45 (by decide) ?_
            refine j_iadd C dX4_readAll_46 ?_
            refine j_put C 1 3 rfl rfl rfl in_X4_readAll_X4 tyX4 tyX4_ok nmX4 (by decide) (by decide +kernel) rfl rfl rfl rfl dX4_readAll_47 ?_
            refine j_mem (fun σ9 eσ9 => ?_)
            replace h := h σ9 eσ9
            obtain ⟨v10, ev10⟩ : ∃ y : Int32, y = x1 + (1 : Int32) := ⟨_, rfl⟩
            replace h := h v10 ev10
            refine j_iinc (v := v10) (lv' := [(1, .int v10), (0, .ref (eA E 1))]) C 1 dX4_readAll_50 1 rfl (by rw [ev10]; rfl) (by decide) rfl ?_
            refine j_goto C 6 dX4_readAll_53 (by decide) ?_
            exact j_sub (lv' := [(0, .ref (eA E 1)), (1, .int v10)]) [1, 0] rfl h
          · replace h := h.2 c8
            exact j_vret C dX4_readAll_39 h
        · replace h := h.2 c5
          refine j_goto C 56 dX4_readAll_29 (by decide) ?_
          exact j_sub (lv' := [(0, .ref (eA E 1))]) [0] rfl h
      · replace h := h.2 c4
        exact j_vret C dX4_readAll_21 h) (by
    intro σ h
    refine j_aload_n C 0 dX4_readAll_56 rfl 0 rfl ?_
    refine j_callVV (As := []) (rest := []) C 1 (c_X4_formRow h) (cwV 0 C.2.2.2.2.2.1 gX4_readAll_X4_formRow rfl rfl rfl hdX4_formRow ⟨Nat.le_of_ble_eq_true rfl, Nat.le_of_ble_eq_true rfl⟩) rfl rfl rfl rfl (Nat.le_of_ble_eq_true rfl) dX4_readAll_57 (fun σ11 h => ?_)
    exact j_vret C dX4_readAll_60 h)
  refine j_aload_n C 0 dX4_readAll_0 rfl 0 rfl ?_
  refine j_callVV (As := []) (rest := []) C 1 (c_X4_startAnew h) (cwV 0 C.2.2.2.2.2.1 gX4_readAll_X4_startAnew rfl rfl rfl hdX4_startAnew ⟨Nat.le_of_ble_eq_true rfl, Nat.le_of_ble_eq_true rfl⟩) rfl rfl rfl rfl (Nat.le_of_ble_eq_true rfl) dX4_readAll_1 (fun σ12 h => ?_)
  refine j_iconst (v := (0 : Int32)) C dX4_readAll_4 (by decide) ?_
  refine j_istore_n (lv' := [(1, .int (0 : Int32)), (0, .ref (eA E 1))]) C 1 dX4_readAll_5 rfl (by decide) rfl ?_
  exact j_sub (lv' := [(0, .ref (eA E 1)), (1, .int (0 : Int32))]) [1, 0] rfl h
