def wp_X5_feed (a1 : Int32) (σ : Mem) (Q : Int32 → Mem → Prop) : Prop :=
  wp_X5_within a1 (0 : Int32) (127 : Int32) σ (fun r2 σ1 => (¬ r2 = 0 → wp_X4_push a1 σ1 (fun r5 σ4 => (r5 = 0 → Q (-3 : Int32) σ4) ∧ (¬ r5 = 0 → Q (σ4.1 1 1) σ4))) ∧ (r2 = 0 → Q (-1 : Int32) σ1))
theorem in_X5_feed_X4 : ∀ w ∈ wsX40, w ∈ wsX5_feed := fun _ h => List.mem_cons_of_mem _ (List.mem_append_right _ h)
theorem in_X5_feed_X5 : ∀ w ∈ wsX50, w ∈ wsX5_feed := fun _ h => List.mem_cons_of_mem _ (List.mem_append_left _ (List.mem_append_right _ h))
def rmX5_feed : Room := { frames := 1, cells := 0, slots := 0, locals := 22 }
theorem hdX5_feed : yX5_feed.cls = RX5 ∧ yX5_feed.cls ≠ "java/lang/invoke/MethodHandle" ∧ yX5_feed.cls ≠ "java/lang/invoke/VarHandle" ∧ (parseMethodDescriptor yX5_feed.desc).map (fun d => d.parameters.length) = some 1 := by decide +kernel
set_option maxHeartbeats 4000000 in
set_option maxRecDepth 100000 in
theorem c_X5_feed {l : Launch} {E : EE} {a1 : Int32}  {σ : Mem} {Q : Int32 → Mem → Prop} (h : wp_X5_feed a1 σ Q) : CtI l yX5_feed wsX5_feed rmX5_feed E [.ref (eA E 0), .int a1] σ Q := by
  refine metI (cc := cX5_feed) (nL := 2) (ret := (some .int)) (lv := [(0, .ref (eA E 0)), (1, .int a1)]) (by decide) rfl (Nat.le_of_ble_eq_true rfl) rfl ?_
  intro p e s m args below meth c C
  unfold wp_X5_feed at h
  refine j_iload_n C 1 dX5_feed_0 rfl 1 rfl ?_
  refine j_iconst (v := (0 : Int32)) C dX5_feed_1 (by decide) ?_
  refine j_bipush (v := (127 : Int32)) C dX5_feed_2 (by decide) ?_
  refine j_callSI (As := [.int a1, .int (0 : Int32), .int (127 : Int32)]) (rest := []) C (c_X5_within h) (va_cwS 3 C.2.2.2.2.2.1 gX5_feed_X5_within rfl rfl rfl hdX5_within.2 ⟨Nat.le_of_ble_eq_true rfl, Nat.le_of_ble_eq_true rfl⟩) rfl rfl (Nat.le_of_ble_eq_true rfl) dX5_feed_4 (fun r2 σ1 h => ?_)
  refine j_if_ne C 12 dX5_feed_7 (by decide) (fun c3 => ?_) (fun c3 => ?_)
  · replace h := h.1 c3
    refine j_aload_n C 0 dX5_feed_12 rfl 0 rfl ?_
    refine j_getR C 1 0 0 rfl rfl rfl in_X5_feed_X5 (by decide) (by decide +kernel) dX5_feed_13 ?_
    refine j_iload_n C 1 dX5_feed_16 rfl 1 rfl ?_
    refine j_callVI (As := [.int a1]) (rest := []) C 1 (c_X4_push h) (cwV 1 C.2.2.2.2.2.1 gX5_feed_X4_push rfl rfl rfl hdX4_push ⟨Nat.le_of_ble_eq_true rfl, Nat.le_of_ble_eq_true rfl⟩) rfl rfl rfl rfl (Nat.le_of_ble_eq_true rfl) dX5_feed_17 (fun r5 σ4 h => ?_)
    refine j_if_eq C 33 dX5_feed_20 (by decide) (fun c6 => ?_) (fun c6 => ?_)
    · replace h := h.1 c6
      refine j_bipush (v := (-3 : Int32)) C dX5_feed_33 (by decide) ?_
      exact j_iret C dX5_feed_35 h
    · replace h := h.2 c6
      refine j_aload_n C 0 dX5_feed_23 rfl 0 rfl ?_
      refine j_getR C 1 0 0 rfl rfl rfl in_X5_feed_X5 (by decide) (by decide +kernel) dX5_feed_24 ?_
      refine j_getI C 1 1 rfl rfl rfl in_X5_feed_X4 (by decide) (by decide +kernel) dX5_feed_27 ?_
      refine j_goto C 35 dX5_feed_30 (by decide) ?_
      exact j_iret C dX5_feed_35 h
  · replace h := h.2 c3
    refine j_iconst (v := (-1 : Int32)) C dX5_feed_10 (by decide) ?_
    exact j_iret C dX5_feed_11 h
def wp_X5_end (a1 : Int32) (σ : Mem) (Q : Int32 → Mem → Prop) : Prop :=
  wp_X5_within a1 (0 : Int32) ((σ.1 1 1)) σ (fun r2 σ1 => (¬ r2 = 0 → ∀ v4 : Int32, v4 = (σ1.1 1 1) → ∀ σ5 : Mem, σ5 = st1 σ1 1 1 a1 → Q v4 σ5) ∧ (r2 = 0 → Q (-1 : Int32) σ1))
theorem in_X5_end_X4 : ∀ w ∈ wsX40, w ∈ wsX5_end := fun _ h => List.mem_cons_of_mem _ (List.mem_append_right _ h)
theorem in_X5_end_X5 : ∀ w ∈ wsX50, w ∈ wsX5_end := fun _ h => List.mem_cons_of_mem _ (List.mem_append_left _ (List.mem_append_right _ h))
def rmX5_end : Room := { frames := 1, cells := 0, slots := 0, locals := 22 }
theorem hdX5_end : yX5_end.cls = RX5 ∧ yX5_end.cls ≠ "java/lang/invoke/MethodHandle" ∧ yX5_end.cls ≠ "java/lang/invoke/VarHandle" ∧ (parseMethodDescriptor yX5_end.desc).map (fun d => d.parameters.length) = some 1 := by decide +kernel
set_option maxHeartbeats 4000000 in
set_option maxRecDepth 100000 in
theorem c_X5_end {l : Launch} {E : EE} {a1 : Int32}  {σ : Mem} {Q : Int32 → Mem → Prop} (h : wp_X5_end a1 σ Q) : CtI l yX5_end wsX5_end rmX5_end E [.ref (eA E 0), .int a1] σ Q := by
  refine metI (cc := cX5_end) (nL := 3) (ret := (some .int)) (lv := [(0, .ref (eA E 0)), (1, .int a1)]) (by decide) rfl (Nat.le_of_ble_eq_true rfl) rfl ?_
  intro p e s m args below meth c C
  unfold wp_X5_end at h
  refine j_iload_n C 1 dX5_end_0 rfl 1 rfl ?_
  refine j_iconst (v := (0 : Int32)) C dX5_end_1 (by decide) ?_
  refine j_aload_n C 0 dX5_end_2 rfl 0 rfl ?_
  refine j_getR C 1 0 0 rfl rfl rfl in_X5_end_X5 (by decide) (by decide +kernel) dX5_end_3 ?_
  refine j_getI C 1 1 rfl rfl rfl in_X5_end_X4 (by decide) (by decide +kernel) dX5_end_6 ?_
  refine j_callSI (As := [.int a1, .int (0 : Int32), .int (σ.1 1 1)]) (rest := []) C (c_X5_within h) (va_cwS 3 C.2.2.2.2.2.1 gX5_end_X5_within rfl rfl rfl hdX5_within.2 ⟨Nat.le_of_ble_eq_true rfl, Nat.le_of_ble_eq_true rfl⟩) rfl rfl (Nat.le_of_ble_eq_true rfl) dX5_end_9 (fun r2 σ1 h => ?_)
  refine j_if_ne C 17 dX5_end_12 (by decide) (fun c3 => ?_) (fun c3 => ?_)
  · replace h := h.1 c3
    refine j_aload_n C 0 dX5_end_17 rfl 0 rfl ?_
    refine j_getR C 1 0 0 rfl rfl rfl in_X5_end_X5 (by decide) (by decide +kernel) dX5_end_18 ?_
    refine j_getI C 1 1 rfl rfl rfl in_X5_end_X4 (by decide) (by decide +kernel) dX5_end_21 ?_
    refine j_topi (fun v4 ev4 => ?_)
    replace h := h v4 ev4
    refine j_istore_n (lv' := [(2, .int v4), (0, .ref (eA E 0)), (1, .int a1)]) C 2 dX5_end_24 rfl (by decide) rfl ?_
    refine j_aload_n C 0 dX5_end_25 rfl 1 rfl ?_
    refine j_getR C 1 0 0 rfl rfl rfl in_X5_end_X5 (by decide) (by decide +kernel) dX5_end_26 ?_
    refine j_iload_n C 1 dX5_end_29 rfl 2 rfl ?_
    refine j_put C 1 1 rfl rfl rfl in_X5_end_X4 tyX4 tyX4_ok nmX4 (by decide) (by decide +kernel) rfl rfl rfl rfl dX5_end_30 ?_
    refine j_mem (fun σ5 eσ5 => ?_)
    replace h := h σ5 eσ5
    refine j_iload_n C 2 dX5_end_33 rfl 0 rfl ?_
    exact j_iret C dX5_end_34 h
  · replace h := h.2 c3
    refine j_iconst (v := (-1 : Int32)) C dX5_end_15 (by decide) ?_
    exact j_iret C dX5_end_16 h
def wp_X5_text (σ : Mem) (Q : Int32 → Mem → Prop) : Prop :=
  ∀ (P60 : Int32 → Mem → Prop),
  (∀ (x1 : Int32) (σ : Mem), (((2 : Int32) ≤ x1 → Q (σ.1 1 3) σ) ∧ (¬ (2 : Int32) ≤ x1 → vp_in x1 2 ∧ (∀ σ3 : Mem, σ3 = st1 σ (30 + 11 * (x1).toNatClampNeg) 2 (0 : Int32) → ∀ v4 : Int32, v4 = x1 + (1 : Int32) → P60 v4 σ3))) → P60 x1 σ) →
  wp_X4_readAll σ (fun σ5 => ∀ σ6 : Mem, σ6 = st1 σ5 1 1 (0 : Int32) → ((σ6.1 1 4) = 0 → wp_X0_copyFrom 12 5 σ6 (fun σ8 => ∀ σ9 : Mem, σ9 = st1 σ8 26 2 (0 : Int32) → P60 (0 : Int32) σ9)) ∧ (¬ (σ6.1 1 4) = 0 → Q ((-10 : Int32) - (σ6.1 1 5)) σ6))
theorem in_X5_text_X1 : ∀ w ∈ wsX10, w ∈ wsX5_text := fun _ h => List.mem_cons_of_mem _ (List.mem_append_left _ (List.mem_append_right _ h))
theorem in_X5_text_X3 : ∀ w ∈ wsX30, w ∈ wsX5_text := fun _ h => List.mem_cons_of_mem _ (List.mem_append_left _ (List.mem_append_left _ (List.mem_append_right _ h)))
theorem in_X5_text_X4 : ∀ w ∈ wsX40, w ∈ wsX5_text := fun _ h => List.mem_cons_of_mem _ (List.mem_append_left _ (List.mem_append_left _ (List.mem_append_left _ (List.mem_append_right _ h))))
theorem in_X5_text_X5 : ∀ w ∈ wsX50, w ∈ wsX5_text := fun _ h => List.mem_cons_of_mem _ (List.mem_append_left _ (List.mem_append_left _ (List.mem_append_left _ (List.mem_append_left _ (List.mem_append_right _ h)))))
def rmX5_text : Room := { frames := 8, cells := 0, slots := 0, locals := 169 }
theorem hdX5_text : yX5_text.cls = RX5 ∧ yX5_text.cls ≠ "java/lang/invoke/MethodHandle" ∧ yX5_text.cls ≠ "java/lang/invoke/VarHandle" ∧ (parseMethodDescriptor yX5_text.desc).map (fun d => d.parameters.length) = some 0 := by decide +kernel
set_option maxHeartbeats 4000000 in
set_option maxRecDepth 100000 in
theorem c_X5_text {l : Launch} {E : EE}   {σ : Mem} {Q : Int32 → Mem → Prop} (h : wp_X5_text  σ Q) : CtI l yX5_text wsX5_text rmX5_text E [.ref (eA E 0)] σ Q := by
  refine metI (cc := cX5_text) (nL := 2) (ret := (some .int)) (lv := [(0, .ref (eA E 0))]) (by decide) rfl (Nat.le_of_ble_eq_true rfl) rfl ?_
  intro p e s m args below meth c C
  unfold wp_X5_text at h
  replace h := h (fun (x1 : Int32) (σ : Mem) => J E p l e rmX5_text s m args below meth c (QI E below args s Q) 2 60 [(0, .ref (eA E 0)), (1, .int x1)] [] σ) (by
    intro x1 σ h
    refine j_iload_n C 1 dX5_text_60 rfl 1 rfl ?_
    refine j_iconst (v := (2 : Int32)) C dX5_text_61 (by decide) ?_
    refine j_icmp_ge C 81 dX5_text_62 (by decide) (fun c1 => ?_) (fun c1 => ?_)
    · replace h := h.1 c1
      refine j_aload_n C 0 dX5_text_81 rfl 0 rfl ?_
      refine j_getR C 1 0 0 rfl rfl rfl in_X5_text_X5 (by decide) (by decide +kernel) dX5_text_82 ?_
      refine j_getI C 1 3 rfl rfl rfl in_X5_text_X4 (by decide) (by decide +kernel) dX5_text_85 ?_
      exact j_iret C dX5_text_88 h
    · replace h := h.2 c1
      refine j_aload_n C 0 dX5_text_65 rfl 0 rfl ?_
      refine j_getR C 29 0 4 rfl rfl rfl in_X5_text_X5 (by decide) (by decide +kernel) dX5_text_66 ?_
      refine j_iload_n C 1 dX5_text_69 rfl 1 rfl ?_
      obtain ⟨b2, h⟩ := h
      refine j_aald C 29 3 rfl rfl rfl dX5_text_70 b2 ?_
      refine j_iconst (v := (0 : Int32)) C dX5_text_71 (by decide) ?_
      refine j_put C (30 + 11 * (x1).toNatClampNeg) 2 (shp_img b2) rfl rfl in_X5_text_X1 tyX1 tyX1_ok nmX1 (by decide) (by decide +kernel) rfl rfl rfl rfl dX5_text_72 ?_
      refine j_mem (fun σ3 eσ3 => ?_)
      replace h := h σ3 eσ3
      obtain ⟨v4, ev4⟩ : ∃ y : Int32, y = x1 + (1 : Int32) := ⟨_, rfl⟩
      replace h := h v4 ev4
      refine j_iinc (v := v4) (lv' := [(1, .int v4), (0, .ref (eA E 0))]) C 1 dX5_text_75 1 rfl (by rw [ev4]; rfl) (by decide) rfl ?_
      refine j_goto C 60 dX5_text_78 (by decide) ?_
      exact j_sub (lv' := [(0, .ref (eA E 0)), (1, .int v4)]) [1, 0] rfl h)
  refine j_aload_n C 0 dX5_text_0 rfl 0 rfl ?_
  refine j_getR C 1 0 0 rfl rfl rfl in_X5_text_X5 (by decide) (by decide +kernel) dX5_text_1 ?_
  refine j_callVV (As := []) (rest := []) C 1 (c_X4_readAll h) (cwV 0 C.2.2.2.2.2.1 gX5_text_X4_readAll rfl rfl rfl hdX4_readAll ⟨Nat.le_of_ble_eq_true rfl, Nat.le_of_ble_eq_true rfl⟩) rfl rfl rfl rfl (Nat.le_of_ble_eq_true rfl) dX5_text_4 (fun σ5 h => ?_)
  refine j_aload_n C 0 dX5_text_7 rfl 0 rfl ?_
  refine j_getR C 1 0 0 rfl rfl rfl in_X5_text_X5 (by decide) (by decide +kernel) dX5_text_8 ?_
  refine j_iconst (v := (0 : Int32)) C dX5_text_11 (by decide) ?_
  refine j_put C 1 1 rfl rfl rfl in_X5_text_X4 tyX4 tyX4_ok nmX4 (by decide) (by decide +kernel) rfl rfl rfl rfl dX5_text_12 ?_
  refine j_mem (fun σ6 eσ6 => ?_)
  replace h := h σ6 eσ6
  refine j_aload_n C 0 dX5_text_15 rfl 0 rfl ?_
  refine j_getR C 1 0 0 rfl rfl rfl in_X5_text_X5 (by decide) (by decide +kernel) dX5_text_16 ?_
  refine j_getI C 1 4 rfl rfl rfl in_X5_text_X4 (by decide) (by decide +kernel) dX5_text_19 ?_
  refine j_if_eq C 36 dX5_text_22 (by decide) (fun c7 => ?_) (fun c7 => ?_)
  · replace h := h.1 c7
    refine j_aload_n C 0 dX5_text_36 rfl 0 rfl ?_
    refine j_getR C 12 0 1 rfl rfl rfl in_X5_text_X5 (by decide) (by decide +kernel) dX5_text_37 ?_
    refine j_aload_n C 0 dX5_text_40 rfl 0 rfl ?_
    refine j_getR C 1 0 0 rfl rfl rfl in_X5_text_X5 (by decide) (by decide +kernel) dX5_text_41 ?_
    refine j_getR C 5 1 2 rfl rfl rfl in_X5_text_X4 (by decide) (by decide +kernel) dX5_text_44 ?_
    refine j_callVV (As := [.ref (eA E 5)]) (rest := []) C 12 (c_X0_copyFrom (rfl) (rfl) h) (cwV 1 C.2.2.2.2.2.1 gX5_text_X0_copyFrom rfl rfl rfl hdX0_copyFrom ⟨Nat.le_of_ble_eq_true rfl, Nat.le_of_ble_eq_true rfl⟩) (shp_dyn (rfl)) rfl rfl rfl (Nat.le_of_ble_eq_true rfl) dX5_text_47 (fun σ8 h => ?_)
    refine j_aload_n C 0 dX5_text_50 rfl 0 rfl ?_
    refine j_getR C 26 0 3 rfl rfl rfl in_X5_text_X5 (by decide) (by decide +kernel) dX5_text_51 ?_
    refine j_iconst (v := (0 : Int32)) C dX5_text_54 (by decide) ?_
    refine j_put C 26 2 (shp_sig (rfl)) rfl rfl in_X5_text_X3 tyX3 tyX3_ok nmX3 (by decide) (by decide +kernel) rfl rfl rfl rfl dX5_text_55 ?_
    refine j_mem (fun σ9 eσ9 => ?_)
    replace h := h σ9 eσ9
    refine j_iconst (v := (0 : Int32)) C dX5_text_58 (by decide) ?_
    refine j_istore_n (lv' := [(1, .int (0 : Int32)), (0, .ref (eA E 0))]) C 1 dX5_text_59 rfl (by decide) rfl ?_
    exact j_sub (lv' := [(0, .ref (eA E 0)), (1, .int (0 : Int32))]) [1, 0] rfl h
  · replace h := h.2 c7
    refine j_bipush (v := (-10 : Int32)) C dX5_text_25 (by decide) ?_
    refine j_aload_n C 0 dX5_text_27 rfl 0 rfl ?_
    refine j_getR C 1 0 0 rfl rfl rfl in_X5_text_X5 (by decide) (by decide +kernel) dX5_text_28 ?_
    refine j_getI C 1 5 rfl rfl rfl in_X5_text_X4 (by decide) (by decide +kernel) dX5_text_31 ?_
    refine j_isub C dX5_text_34 ?_
    exact j_iret C dX5_text_35 h
def wp_X5_fault (σ : Mem) (Q : Int32 → Mem → Prop) : Prop :=
  Q (σ.1 1 4) σ
theorem in_X5_fault_X4 : ∀ w ∈ wsX40, w ∈ wsX5_fault := fun _ h => List.mem_cons_of_mem _ (List.mem_append_right _ h)
theorem in_X5_fault_X5 : ∀ w ∈ wsX50, w ∈ wsX5_fault := fun _ h => List.mem_cons_of_mem _ (List.mem_append_left _ (List.mem_append_right _ h))
def rmX5_fault : Room := { frames := 0, cells := 0, slots := 0, locals := 0 }
theorem hdX5_fault : yX5_fault.cls = RX5 ∧ yX5_fault.cls ≠ "java/lang/invoke/MethodHandle" ∧ yX5_fault.cls ≠ "java/lang/invoke/VarHandle" ∧ (parseMethodDescriptor yX5_fault.desc).map (fun d => d.parameters.length) = some 0 := by decide +kernel
set_option maxHeartbeats 4000000 in
set_option maxRecDepth 100000 in
theorem c_X5_fault {l : Launch} {E : EE}   {σ : Mem} {Q : Int32 → Mem → Prop} (h : wp_X5_fault  σ Q) : CtI l yX5_fault wsX5_fault rmX5_fault E [.ref (eA E 0)] σ Q := by
  refine metI (cc := cX5_fault) (nL := 1) (ret := (some .int)) (lv := [(0, .ref (eA E 0))]) (by decide) rfl (Nat.le_of_ble_eq_true rfl) rfl ?_
  intro p e s m args below meth c C
  unfold wp_X5_fault at h
  refine j_aload_n C 0 dX5_fault_0 rfl 0 rfl ?_
  refine j_getR C 1 0 0 rfl rfl rfl in_X5_fault_X5 (by decide) (by decide +kernel) dX5_fault_1 ?_
  refine j_getI C 1 4 rfl rfl rfl in_X5_fault_X4 (by decide) (by decide +kernel) dX5_fault_4 ?_
  exact j_iret C dX5_fault_7 h
def wp_X5_rule (a1 : Int32) (σ : Mem) (Q : Int32 → Mem → Prop) : Prop :=
  (a1 = (0 : Int32) → Q (σ.1 12 2) σ) ∧ (a1 = (1 : Int32) → Q (σ.1 12 5) σ) ∧ (a1 = (2 : Int32) → Q (σ.1 12 4) σ) ∧ (a1 = (3 : Int32) → Q (σ.1 12 3) σ) ∧ (a1 = (4 : Int32) → Q (σ.1 12 6) σ) ∧ (a1 = (5 : Int32) → Q (σ.1 12 7) σ) ∧ (¬ a1 = (0 : Int32) → ¬ a1 = (1 : Int32) → ¬ a1 = (2 : Int32) → ¬ a1 = (3 : Int32) → ¬ a1 = (4 : Int32) → ¬ a1 = (5 : Int32) → Q (-1 : Int32) σ)
theorem in_X5_rule_X0 : ∀ w ∈ wsX00, w ∈ wsX5_rule := fun _ h => List.mem_cons_of_mem _ (List.mem_append_right _ h)
theorem in_X5_rule_X5 : ∀ w ∈ wsX50, w ∈ wsX5_rule := fun _ h => List.mem_cons_of_mem _ (List.mem_append_left _ (List.mem_append_right _ h))
def rmX5_rule : Room := { frames := 0, cells := 0, slots := 0, locals := 0 }
theorem hdX5_rule : yX5_rule.cls = RX5 ∧ yX5_rule.cls ≠ "java/lang/invoke/MethodHandle" ∧ yX5_rule.cls ≠ "java/lang/invoke/VarHandle" ∧ (parseMethodDescriptor yX5_rule.desc).map (fun d => d.parameters.length) = some 1 := by decide +kernel
set_option maxHeartbeats 4000000 in
set_option maxRecDepth 100000 in
theorem c_X5_rule {l : Launch} {E : EE} {a1 : Int32}  {σ : Mem} {Q : Int32 → Mem → Prop} (h : wp_X5_rule a1 σ Q) : CtI l yX5_rule wsX5_rule rmX5_rule E [.ref (eA E 0), .int a1] σ Q := by
  refine metI (cc := cX5_rule) (nL := 2) (ret := (some .int)) (lv := [(0, .ref (eA E 0)), (1, .int a1)]) (by decide) rfl (Nat.le_of_ble_eq_true rfl) rfl ?_
  intro p e s m args below meth c C
  unfold wp_X5_rule at h
  refine j_iload_n C 1 dX5_rule_0 rfl 1 rfl ?_
  by_cases c1 : a1 = (0 : Int32)
  · replace h := h.1 c1
    refine j_tabIn (off := 39) C 40 dX5_rule_1 (0 : Int32) c1 (by decide) (by decide) (by decide) (by decide) ?_
    refine j_aload_n C 0 dX5_rule_40 rfl 0 rfl ?_
    refine j_getR C 12 0 1 rfl rfl rfl in_X5_rule_X5 (by decide) (by decide +kernel) dX5_rule_41 ?_
    refine j_getI C 12 2 (shp_dyn (rfl)) rfl rfl in_X5_rule_X0 (by decide) (by decide +kernel) dX5_rule_44 ?_
    exact j_iret C dX5_rule_47 h
  by_cases c2 : a1 = (1 : Int32)
  · replace h := h.2.1 c2
    refine j_tabIn (off := 47) C 48 dX5_rule_1 (1 : Int32) c2 (by decide) (by decide) (by decide) (by decide) ?_
    refine j_aload_n C 0 dX5_rule_48 rfl 0 rfl ?_
    refine j_getR C 12 0 1 rfl rfl rfl in_X5_rule_X5 (by decide) (by decide +kernel) dX5_rule_49 ?_
    refine j_getI C 12 5 (shp_dyn (rfl)) rfl rfl in_X5_rule_X0 (by decide) (by decide +kernel) dX5_rule_52 ?_
    exact j_iret C dX5_rule_55 h
  by_cases c3 : a1 = (2 : Int32)
  · replace h := h.2.2.1 c3
    refine j_tabIn (off := 55) C 56 dX5_rule_1 (2 : Int32) c3 (by decide) (by decide) (by decide) (by decide) ?_
    refine j_aload_n C 0 dX5_rule_56 rfl 0 rfl ?_
    refine j_getR C 12 0 1 rfl rfl rfl in_X5_rule_X5 (by decide) (by decide +kernel) dX5_rule_57 ?_
    refine j_getI C 12 4 (shp_dyn (rfl)) rfl rfl in_X5_rule_X0 (by decide) (by decide +kernel) dX5_rule_60 ?_
    exact j_iret C dX5_rule_63 h
  by_cases c4 : a1 = (3 : Int32)
  · replace h := h.2.2.2.1 c4
    refine j_tabIn (off := 63) C 64 dX5_rule_1 (3 : Int32) c4 (by decide) (by decide) (by decide) (by decide) ?_
    refine j_aload_n C 0 dX5_rule_64 rfl 0 rfl ?_
    refine j_getR C 12 0 1 rfl rfl rfl in_X5_rule_X5 (by decide) (by decide +kernel) dX5_rule_65 ?_
    refine j_getI C 12 3 (shp_dyn (rfl)) rfl rfl in_X5_rule_X0 (by decide) (by decide +kernel) dX5_rule_68 ?_
    exact j_iret C dX5_rule_71 h
  by_cases c5 : a1 = (4 : Int32)
  · replace h := h.2.2.2.2.1 c5
    refine j_tabIn (off := 71) C 72 dX5_rule_1 (4 : Int32) c5 (by decide) (by decide) (by decide) (by decide) ?_
    refine j_aload_n C 0 dX5_rule_72 rfl 0 rfl ?_
    refine j_getR C 12 0 1 rfl rfl rfl in_X5_rule_X5 (by decide) (by decide +kernel) dX5_rule_73 ?_
    refine j_getI C 12 6 (shp_dyn (rfl)) rfl rfl in_X5_rule_X0 (by decide) (by decide +kernel) dX5_rule_76 ?_
    exact j_iret C dX5_rule_79 h
  by_cases c6 : a1 = (5 : Int32)
  · replace h := h.2.2.2.2.2.1 c6
    refine j_tabIn (off := 79) C 80 dX5_rule_1 (5 : Int32) c6 (by decide) (by decide) (by decide) (by decide) ?_
    refine j_aload_n C 0 dX5_rule_80 rfl 0 rfl ?_
    refine j_getR C 12 0 1 rfl rfl rfl in_X5_rule_X5 (by decide) (by decide +kernel) dX5_rule_81 ?_
    refine j_getI C 12 7 (shp_dyn (rfl)) rfl rfl in_X5_rule_X0 (by decide) (by decide +kernel) dX5_rule_84 ?_
    exact j_iret C dX5_rule_87 h
  replace h := h.2.2.2.2.2.2 c1 c2 c3 c4 c5 c6
  refine j_tabOut C 88 dX5_rule_1 (tab_out (lo := 0) (hi := 5) (fun v h1 h2 => by rcases (show v = 0 ∨ v = 1 ∨ v = 2 ∨ v = 3 ∨ v = 4 ∨ v = 5 by omega) with rfl | rfl | rfl | rfl | rfl | rfl <;> assumption)) (by decide) ?_
  refine j_iconst (v := (-1 : Int32)) C dX5_rule_88 (by decide) ?_
  exact j_iret C dX5_rule_89 h
def wp_X5_isHeir (a1 : Int32) (σ : Mem) (Q : Int32 → Mem → Prop) : Prop :=
  wp_X5_within a1 (0 : Int32) (((σ.1 12 2) - (1 : Int32))) σ (fun r2 σ1 => (r2 = 0 ∨ r2 = 1) ∧ Q r2 σ1)
theorem in_X5_isHeir_X0 : ∀ w ∈ wsX00, w ∈ wsX5_isHeir := fun _ h => List.mem_cons_of_mem _ (List.mem_append_right _ h)
theorem in_X5_isHeir_X5 : ∀ w ∈ wsX50, w ∈ wsX5_isHeir := fun _ h => List.mem_cons_of_mem _ (List.mem_append_left _ (List.mem_append_right _ h))
def rmX5_isHeir : Room := { frames := 1, cells := 0, slots := 0, locals := 22 }
theorem hdX5_isHeir : yX5_isHeir.cls = RX5 ∧ yX5_isHeir.cls ≠ "java/lang/invoke/MethodHandle" ∧ yX5_isHeir.cls ≠ "java/lang/invoke/VarHandle" ∧ (parseMethodDescriptor yX5_isHeir.desc).map (fun d => d.parameters.length) = some 1 := by decide +kernel
set_option maxHeartbeats 4000000 in
set_option maxRecDepth 100000 in
theorem c_X5_isHeir {l : Launch} {E : EE} {a1 : Int32}  {σ : Mem} {Q : Int32 → Mem → Prop} (h : wp_X5_isHeir a1 σ Q) : CtI l yX5_isHeir wsX5_isHeir rmX5_isHeir E [.ref (eA E 0), .int a1] σ Q := by
  refine metI (cc := cX5_isHeir) (nL := 2) (ret := (some .boolean)) (lv := [(0, .ref (eA E 0)), (1, .int a1)]) (by decide) rfl (Nat.le_of_ble_eq_true rfl) rfl ?_
  intro p e s m args below meth c C
  unfold wp_X5_isHeir at h
  refine j_iload_n C 1 dX5_isHeir_0 rfl 1 rfl ?_
  refine j_iconst (v := (0 : Int32)) C dX5_isHeir_1 (by decide) ?_
  refine j_aload_n C 0 dX5_isHeir_2 rfl 0 rfl ?_
  refine j_getR C 12 0 1 rfl rfl rfl in_X5_isHeir_X5 (by decide) (by decide +kernel) dX5_isHeir_3 ?_
  refine j_getI C 12 2 (shp_dyn (rfl)) rfl rfl in_X5_isHeir_X0 (by decide) (by decide +kernel) dX5_isHeir_6 ?_
  refine j_iconst (v := (1 : Int32)) C dX5_isHeir_9 (by decide) ?_
  refine j_isub C dX5_isHeir_10 ?_
  refine j_callSI (As := [.int a1, .int (0 : Int32), .int ((σ.1 12 2) - (1 : Int32))]) (rest := []) C (c_X5_within h) (va_cwS 3 C.2.2.2.2.2.1 gX5_isHeir_X5_within rfl rfl rfl hdX5_within.2 ⟨Nat.le_of_ble_eq_true rfl, Nat.le_of_ble_eq_true rfl⟩) rfl rfl (Nat.le_of_ble_eq_true rfl) dX5_isHeir_11 (fun r2 σ1 h => ?_)
  exact j_zret C dX5_isHeir_14 h.1 h.2
def wp_X5_heir (a1 : Int32) (a2 : Int32) (σ : Mem) (Q : Int32 → Mem → Prop) : Prop :=
  wp_X5_isHeir a1 σ (fun r2 σ1 => (r2 = 0 → Q (-1 : Int32) σ1) ∧ (¬ r2 = 0 → wp_X5_within a2 (0 : Int32) (5 : Int32) σ1 (fun r5 σ4 => (¬ r5 = 0 → ((4 : Int32) ≤ a2 → (¬ a2 = (4 : Int32) → wp_X0_placeOf 12 a1 σ4 (fun r10 σ9 => Q r10 σ9)) ∧ (a2 = (4 : Int32) → wp_X0_heightOf 12 a1 σ4 (fun r12 σ11 => Q r12 σ11))) ∧ (¬ (4 : Int32) ≤ a2 → vp_in a2 4 ∧ (vp_in a1 6 ∧ (Q (σ4.1 (12 + 2 + 1 * (a2).toNatClampNeg) (a1).toNatClampNeg) σ4)))) ∧ (r5 = 0 → Q (-1 : Int32) σ4))))
theorem in_X5_heir_X0 : ∀ w ∈ wsX00, w ∈ wsX5_heir := fun _ h => List.mem_cons_of_mem _ (List.mem_append_right _ h)
theorem in_X5_heir_X5 : ∀ w ∈ wsX50, w ∈ wsX5_heir := fun _ h => List.mem_cons_of_mem _ (List.mem_append_left _ (List.mem_append_right _ h))
def rmX5_heir : Room := { frames := 2, cells := 0, slots := 0, locals := 45 }
theorem hdX5_heir : yX5_heir.cls = RX5 ∧ yX5_heir.cls ≠ "java/lang/invoke/MethodHandle" ∧ yX5_heir.cls ≠ "java/lang/invoke/VarHandle" ∧ (parseMethodDescriptor yX5_heir.desc).map (fun d => d.parameters.length) = some 2 := by decide +kernel
set_option maxHeartbeats 4000000 in
set_option maxRecDepth 100000 in
theorem c_X5_heir {l : Launch} {E : EE} {a1 : Int32} {a2 : Int32}  {σ : Mem} {Q : Int32 → Mem → Prop} (h : wp_X5_heir a1 a2 σ Q) : CtI l yX5_heir wsX5_heir rmX5_heir E [.ref (eA E 0), .int a1, .int a2] σ Q := by
  refine metI (cc := cX5_heir) (nL := 3) (ret := (some .int)) (lv := [(0, .ref (eA E 0)), (1, .int a1), (2, .int a2)]) (by decide) rfl (Nat.le_of_ble_eq_true rfl) rfl ?_
  intro p e s m args below meth c C
  unfold wp_X5_heir at h
  refine j_aload_n C 0 dX5_heir_0 rfl 0 rfl ?_
  refine j_iload_n C 1 dX5_heir_1 rfl 1 rfl ?_
  refine j_callVI (As := [.int a1]) (rest := []) C 0 (c_X5_isHeir h) (cwV 1 C.2.2.2.2.2.1 gX5_heir_X5_isHeir rfl rfl rfl hdX5_isHeir ⟨Nat.le_of_ble_eq_true rfl, Nat.le_of_ble_eq_true rfl⟩) rfl rfl rfl rfl (Nat.le_of_ble_eq_true rfl) dX5_heir_2 (fun r2 σ1 h => ?_)
  refine j_if_eq C 17 dX5_heir_5 (by decide) (fun c3 => ?_) (fun c3 => ?_)
  · replace h := h.1 c3
    refine j_iconst (v := (-1 : Int32)) C dX5_heir_17 (by decide) ?_
    exact j_iret C dX5_heir_18 h
  · replace h := h.2 c3
    refine j_iload_n C 2 dX5_heir_8 rfl 2 rfl ?_
    refine j_iconst (v := (0 : Int32)) C dX5_heir_9 (by decide) ?_
    refine j_iconst (v := (5 : Int32)) C dX5_heir_10 (by decide) ?_
    refine j_callSI (As := [.int a2, .int (0 : Int32), .int (5 : Int32)]) (rest := []) C (c_X5_within h) (va_cwS 3 C.2.2.2.2.2.1 gX5_heir_X5_within rfl rfl rfl hdX5_within.2 ⟨Nat.le_of_ble_eq_true rfl, Nat.le_of_ble_eq_true rfl⟩) rfl rfl (Nat.le_of_ble_eq_true rfl) dX5_heir_11 (fun r5 σ4 h => ?_)
    refine j_if_ne C 19 dX5_heir_14 (by decide) (fun c6 => ?_) (fun c6 => ?_)
    · replace h := h.1 c6
      refine j_iload_n C 2 dX5_heir_19 rfl 2 rfl ?_
      refine j_iconst (v := (4 : Int32)) C dX5_heir_20 (by decide) ?_
      refine j_icmp_ge C 36 dX5_heir_21 (by decide) (fun c7 => ?_) (fun c7 => ?_)
      · replace h := h.1 c7
        refine j_iload_n C 2 dX5_heir_36 rfl 2 rfl ?_
        refine j_iconst (v := (4 : Int32)) C dX5_heir_37 (by decide) ?_
        refine j_icmp_ne C 52 dX5_heir_38 (by decide) (fun c8 => ?_) (fun c8 => ?_)
        · replace h := h.1 c8
          refine j_aload_n C 0 dX5_heir_52 rfl 0 rfl ?_
          refine j_getR C 12 0 1 rfl rfl rfl in_X5_heir_X5 (by decide) (by decide +kernel) dX5_heir_53 ?_
          refine j_iload_n C 1 dX5_heir_56 rfl 1 rfl ?_
          refine j_callVI (As := [.int a1]) (rest := []) C 12 (c_X0_placeOf (rfl) h) (cwV 1 C.2.2.2.2.2.1 gX5_heir_X0_placeOf rfl rfl rfl hdX0_placeOf ⟨Nat.le_of_ble_eq_true rfl, Nat.le_of_ble_eq_true rfl⟩) (shp_dyn (rfl)) rfl rfl rfl (Nat.le_of_ble_eq_true rfl) dX5_heir_57 (fun r10 σ9 h => ?_)
          exact j_iret C dX5_heir_60 h
        · replace h := h.2 c8
          refine j_aload_n C 0 dX5_heir_41 rfl 0 rfl ?_
          refine j_getR C 12 0 1 rfl rfl rfl in_X5_heir_X5 (by decide) (by decide +kernel) dX5_heir_42 ?_
          refine j_iload_n C 1 dX5_heir_45 rfl 1 rfl ?_
          refine j_callVI (As := [.int a1]) (rest := []) C 12 (c_X0_heightOf (rfl) h) (cwV 1 C.2.2.2.2.2.1 gX5_heir_X0_heightOf rfl rfl rfl hdX0_heightOf ⟨Nat.le_of_ble_eq_true rfl, Nat.le_of_ble_eq_true rfl⟩) (shp_dyn (rfl)) rfl rfl rfl (Nat.le_of_ble_eq_true rfl) dX5_heir_46 (fun r12 σ11 h => ?_)
          refine j_goto C 60 dX5_heir_49 (by decide) ?_
          exact j_iret C dX5_heir_60 h
      · replace h := h.2 c7
        refine j_aload_n C 0 dX5_heir_24 rfl 0 rfl ?_
        refine j_getR C 12 0 1 rfl rfl rfl in_X5_heir_X5 (by decide) (by decide +kernel) dX5_heir_25 ?_
        refine j_getR C (12 + 1) 12 0 (shp_dyn (rfl)) rfl rfl in_X5_heir_X0 (by decide) (by decide +kernel) dX5_heir_28 ?_
        refine j_iload_n C 2 dX5_heir_31 rfl 2 rfl ?_
        obtain ⟨b13, h⟩ := h
        refine j_aald C (12 + 1) 5 (shp_dynT (rfl)) rfl rfl dX5_heir_32 b13 ?_
        refine j_iload_n C 1 dX5_heir_33 rfl 1 rfl ?_
        refine j_iald C (12 + 2 + 1 * (a2).toNatClampNeg) (shp_dynR (rfl) b13) dX5_heir_34 h.1 ?_
        replace h := h.2
        exact j_iret C dX5_heir_35 h
    · replace h := h.2 c6
      refine j_iconst (v := (-1 : Int32)) C dX5_heir_17 (by decide) ?_
      exact j_iret C dX5_heir_18 h
def wp_X5_isPlace (a1 : Int32) (σ : Mem) (Q : Int32 → Mem → Prop) : Prop :=
  wp_X5_within a1 (0 : Int32) (((σ.1 12 2) - (1 : Int32))) σ (fun r2 σ1 => (r2 = 0 ∨ r2 = 1) ∧ Q r2 σ1)
theorem in_X5_isPlace_X0 : ∀ w ∈ wsX00, w ∈ wsX5_isPlace := fun _ h => List.mem_cons_of_mem _ (List.mem_append_right _ h)
theorem in_X5_isPlace_X5 : ∀ w ∈ wsX50, w ∈ wsX5_isPlace := fun _ h => List.mem_cons_of_mem _ (List.mem_append_left _ (List.mem_append_right _ h))
def rmX5_isPlace : Room := { frames := 1, cells := 0, slots := 0, locals := 22 }
theorem hdX5_isPlace : yX5_isPlace.cls = RX5 ∧ yX5_isPlace.cls ≠ "java/lang/invoke/MethodHandle" ∧ yX5_isPlace.cls ≠ "java/lang/invoke/VarHandle" ∧ (parseMethodDescriptor yX5_isPlace.desc).map (fun d => d.parameters.length) = some 1 := by decide +kernel
set_option maxHeartbeats 4000000 in
set_option maxRecDepth 100000 in
theorem c_X5_isPlace {l : Launch} {E : EE} {a1 : Int32}  {σ : Mem} {Q : Int32 → Mem → Prop} (h : wp_X5_isPlace a1 σ Q) : CtI l yX5_isPlace wsX5_isPlace rmX5_isPlace E [.ref (eA E 0), .int a1] σ Q := by
  refine metI (cc := cX5_isPlace) (nL := 2) (ret := (some .boolean)) (lv := [(0, .ref (eA E 0)), (1, .int a1)]) (by decide) rfl (Nat.le_of_ble_eq_true rfl) rfl ?_
  intro p e s m args below meth c C
  unfold wp_X5_isPlace at h
  refine j_iload_n C 1 dX5_isPlace_0 rfl 1 rfl ?_
  refine j_iconst (v := (0 : Int32)) C dX5_isPlace_1 (by decide) ?_
  refine j_aload_n C 0 dX5_isPlace_2 rfl 0 rfl ?_
  refine j_getR C 12 0 1 rfl rfl rfl in_X5_isPlace_X5 (by decide) (by decide +kernel) dX5_isPlace_3 ?_
  refine j_getI C 12 2 (shp_dyn (rfl)) rfl rfl in_X5_isPlace_X0 (by decide) (by decide +kernel) dX5_isPlace_6 ?_
  refine j_iconst (v := (1 : Int32)) C dX5_isPlace_9 (by decide) ?_
  refine j_isub C dX5_isPlace_10 ?_
  refine j_callSI (As := [.int a1, .int (0 : Int32), .int ((σ.1 12 2) - (1 : Int32))]) (rest := []) C (c_X5_within h) (va_cwS 3 C.2.2.2.2.2.1 gX5_isPlace_X5_within rfl rfl rfl hdX5_within.2 ⟨Nat.le_of_ble_eq_true rfl, Nat.le_of_ble_eq_true rfl⟩) rfl rfl (Nat.le_of_ble_eq_true rfl) dX5_isPlace_11 (fun r2 σ1 h => ?_)
  exact j_zret C dX5_isPlace_14 h.1 h.2
def wp_X5_line (a1 : Int32) (σ : Mem) (Q : Int32 → Mem → Prop) : Prop :=
  wp_X5_isPlace a1 σ (fun r2 σ1 => (r2 = 0 → Q (-1 : Int32) σ1) ∧ (¬ r2 = 0 → vp_in a1 6 ∧ (Q (σ1.1 (12 + 6) (a1).toNatClampNeg) σ1)))
theorem in_X5_line_X0 : ∀ w ∈ wsX00, w ∈ wsX5_line := fun _ h => List.mem_cons_of_mem _ (List.mem_append_right _ h)
theorem in_X5_line_X5 : ∀ w ∈ wsX50, w ∈ wsX5_line := fun _ h => List.mem_cons_of_mem _ (List.mem_append_left _ (List.mem_append_right _ h))
def rmX5_line : Room := { frames := 2, cells := 0, slots := 0, locals := 43 }
theorem hdX5_line : yX5_line.cls = RX5 ∧ yX5_line.cls ≠ "java/lang/invoke/MethodHandle" ∧ yX5_line.cls ≠ "java/lang/invoke/VarHandle" ∧ (parseMethodDescriptor yX5_line.desc).map (fun d => d.parameters.length) = some 1 := by decide +kernel
set_option maxHeartbeats 4000000 in
set_option maxRecDepth 100000 in
theorem c_X5_line {l : Launch} {E : EE} {a1 : Int32}  {σ : Mem} {Q : Int32 → Mem → Prop} (h : wp_X5_line a1 σ Q) : CtI l yX5_line wsX5_line rmX5_line E [.ref (eA E 0), .int a1] σ Q := by
  refine metI (cc := cX5_line) (nL := 2) (ret := (some .int)) (lv := [(0, .ref (eA E 0)), (1, .int a1)]) (by decide) rfl (Nat.le_of_ble_eq_true rfl) rfl ?_
  intro p e s m args below meth c C
  unfold wp_X5_line at h
  refine j_aload_n C 0 dX5_line_0 rfl 0 rfl ?_
  refine j_iload_n C 1 dX5_line_1 rfl 1 rfl ?_
  refine j_callVI (As := [.int a1]) (rest := []) C 0 (c_X5_isPlace h) (cwV 1 C.2.2.2.2.2.1 gX5_line_X5_isPlace rfl rfl rfl hdX5_isPlace ⟨Nat.le_of_ble_eq_true rfl, Nat.le_of_ble_eq_true rfl⟩) rfl rfl rfl rfl (Nat.le_of_ble_eq_true rfl) dX5_line_2 (fun r2 σ1 h => ?_)
  refine j_if_eq C 20 dX5_line_5 (by decide) (fun c3 => ?_) (fun c3 => ?_)
  · replace h := h.1 c3
    refine j_iconst (v := (-1 : Int32)) C dX5_line_20 (by decide) ?_
    exact j_iret C dX5_line_21 h
  · replace h := h.2 c3
    refine j_aload_n C 0 dX5_line_8 rfl 0 rfl ?_
    refine j_getR C 12 0 1 rfl rfl rfl in_X5_line_X5 (by decide) (by decide +kernel) dX5_line_9 ?_
    refine j_getR C (12 + 6) 12 1 (shp_dyn (rfl)) rfl rfl in_X5_line_X0 (by decide) (by decide +kernel) dX5_line_12 ?_
    refine j_iload_n C 1 dX5_line_15 rfl 1 rfl ?_
    refine j_iald C (12 + 6) (shp_dynL (rfl)) dX5_line_16 h.1 ?_
    replace h := h.2
    refine j_goto C 21 dX5_line_17 (by decide) ?_
    exact j_iret C dX5_line_21 h
def wp_X5_alter (a1 : Int32) (a2 : Int32) (a3 : Int32) (σ : Mem) (Q : Int32 → Mem → Prop) : Prop :=
  wp_X0_takes 12 a1 a2 a3 σ (fun r2 σ1 => (¬ r2 = 0 → vp_in a2 4 ∧ (vp_in a1 6 ∧ (∀ v5 : Int32, v5 = (σ1.1 (12 + 2 + 1 * (a2).toNatClampNeg) (a1).toNatClampNeg) → vp_in a2 4 ∧ (vp_in a1 6 ∧ (∀ σ7 : Mem, σ7 = st1 σ1 (12 + 2 + 1 * (a2).toNatClampNeg) (a1).toNatClampNeg a3 → Q v5 σ7))))) ∧ (r2 = 0 → Q (-1 : Int32) σ1))
theorem in_X5_alter_X0 : ∀ w ∈ wsX00, w ∈ wsX5_alter := fun _ h => List.mem_cons_of_mem _ (List.mem_append_right _ h)
theorem in_X5_alter_X5 : ∀ w ∈ wsX50, w ∈ wsX5_alter := fun _ h => List.mem_cons_of_mem _ (List.mem_append_left _ (List.mem_append_right _ h))
def rmX5_alter : Room := { frames := 3, cells := 0, slots := 0, locals := 66 }
theorem hdX5_alter : yX5_alter.cls = RX5 ∧ yX5_alter.cls ≠ "java/lang/invoke/MethodHandle" ∧ yX5_alter.cls ≠ "java/lang/invoke/VarHandle" ∧ (parseMethodDescriptor yX5_alter.desc).map (fun d => d.parameters.length) = some 3 := by decide +kernel
set_option maxHeartbeats 4000000 in
set_option maxRecDepth 100000 in
theorem c_X5_alter {l : Launch} {E : EE} {a1 : Int32} {a2 : Int32} {a3 : Int32}  {σ : Mem} {Q : Int32 → Mem → Prop} (h : wp_X5_alter a1 a2 a3 σ Q) : CtI l yX5_alter wsX5_alter rmX5_alter E [.ref (eA E 0), .int a1, .int a2, .int a3] σ Q := by
  refine metI (cc := cX5_alter) (nL := 5) (ret := (some .int)) (lv := [(0, .ref (eA E 0)), (1, .int a1), (2, .int a2), (3, .int a3)]) (by decide) rfl (Nat.le_of_ble_eq_true rfl) rfl ?_
  intro p e s m args below meth c C
  unfold wp_X5_alter at h
  refine j_aload_n C 0 dX5_alter_0 rfl 0 rfl ?_
  refine j_getR C 12 0 1 rfl rfl rfl in_X5_alter_X5 (by decide) (by decide +kernel) dX5_alter_1 ?_
  refine j_iload_n C 1 dX5_alter_4 rfl 1 rfl ?_
  refine j_iload_n C 2 dX5_alter_5 rfl 2 rfl ?_
  refine j_iload_n C 3 dX5_alter_6 rfl 3 rfl ?_
  refine j_callVI (As := [.int a1, .int a2, .int a3]) (rest := []) C 12 (c_X0_takes (rfl) h) (cwV 3 C.2.2.2.2.2.1 gX5_alter_X0_takes rfl rfl rfl hdX0_takes ⟨Nat.le_of_ble_eq_true rfl, Nat.le_of_ble_eq_true rfl⟩) (shp_dyn (rfl)) rfl rfl rfl (Nat.le_of_ble_eq_true rfl) dX5_alter_7 (fun r2 σ1 h => ?_)
  refine j_if_ne C 15 dX5_alter_10 (by decide) (fun c3 => ?_) (fun c3 => ?_)
  · replace h := h.1 c3
    refine j_aload_n C 0 dX5_alter_15 rfl 0 rfl ?_
    refine j_getR C 12 0 1 rfl rfl rfl in_X5_alter_X5 (by decide) (by decide +kernel) dX5_alter_16 ?_
    refine j_getR C (12 + 1) 12 0 (shp_dyn (rfl)) rfl rfl in_X5_alter_X0 (by decide) (by decide +kernel) dX5_alter_19 ?_
    refine j_iload_n C 2 dX5_alter_22 rfl 2 rfl ?_
    obtain ⟨b4, h⟩ := h
    refine j_aald C (12 + 1) 5 (shp_dynT (rfl)) rfl rfl dX5_alter_23 b4 ?_
    refine j_iload_n C 1 dX5_alter_24 rfl 1 rfl ?_
    refine j_iald C (12 + 2 + 1 * (a2).toNatClampNeg) (shp_dynR (rfl) b4) dX5_alter_25 h.1 ?_
    replace h := h.2
    refine j_topi (fun v5 ev5 => ?_)
    replace h := h v5 ev5
    refine j_istore (lv' := [(4, .int v5), (0, .ref (eA E 0)), (1, .int a1), (2, .int a2), (3, .int a3)]) C 4 dX5_alter_26 (by decide) rfl ?_
    refine j_aload_n C 0 dX5_alter_28 rfl 1 rfl ?_
    refine j_getR C 12 0 1 rfl rfl rfl in_X5_alter_X5 (by decide) (by decide +kernel) dX5_alter_29 ?_
    refine j_getR C (12 + 1) 12 0 (shp_dyn (rfl)) rfl rfl in_X5_alter_X0 (by decide) (by decide +kernel) dX5_alter_32 ?_
    refine j_iload_n C 2 dX5_alter_35 rfl 3 rfl ?_
    obtain ⟨b6, h⟩ := h
    refine j_aald C (12 + 1) 5 (shp_dynT (rfl)) rfl rfl dX5_alter_36 b6 ?_
    refine j_iload_n C 1 dX5_alter_37 rfl 2 rfl ?_
    refine j_iload_n C 3 dX5_alter_38 rfl 4 rfl ?_
    refine j_iast C (12 + 2 + 1 * (a2).toNatClampNeg) (shp_dynR (rfl) b6) dX5_alter_39 h.1 ?_
    replace h := h.2
    refine j_mem (fun σ7 eσ7 => ?_)
    replace h := h σ7 eσ7
    refine j_iload C 4 dX5_alter_40 0 rfl ?_
    exact j_iret C dX5_alter_42 h
  · replace h := h.2 c3
    refine j_iconst (v := (-1 : Int32)) C dX5_alter_13 (by decide) ?_
    exact j_iret C dX5_alter_14 h
def wp_X5_lumbago (a1 : Int32) (σ : Mem) (Q : Int32 → Mem → Prop) : Prop :=
  wp_X5_within a1 (0 : Int32) (9 : Int32) σ (fun r2 σ1 => (¬ r2 = 0 → ∀ v4 : Int32, v4 = (σ1.1 12 3) → ∀ σ5 : Mem, σ5 = st1 σ1 12 3 a1 → Q v4 σ5) ∧ (r2 = 0 → Q (-1 : Int32) σ1))
theorem in_X5_lumbago_X0 : ∀ w ∈ wsX00, w ∈ wsX5_lumbago := fun _ h => List.mem_cons_of_mem _ (List.mem_append_right _ h)
theorem in_X5_lumbago_X5 : ∀ w ∈ wsX50, w ∈ wsX5_lumbago := fun _ h => List.mem_cons_of_mem _ (List.mem_append_left _ (List.mem_append_right _ h))
def rmX5_lumbago : Room := { frames := 1, cells := 0, slots := 0, locals := 22 }
theorem hdX5_lumbago : yX5_lumbago.cls = RX5 ∧ yX5_lumbago.cls ≠ "java/lang/invoke/MethodHandle" ∧ yX5_lumbago.cls ≠ "java/lang/invoke/VarHandle" ∧ (parseMethodDescriptor yX5_lumbago.desc).map (fun d => d.parameters.length) = some 1 := by decide +kernel
set_option maxHeartbeats 4000000 in
set_option maxRecDepth 100000 in
theorem c_X5_lumbago {l : Launch} {E : EE} {a1 : Int32}  {σ : Mem} {Q : Int32 → Mem → Prop} (h : wp_X5_lumbago a1 σ Q) : CtI l yX5_lumbago wsX5_lumbago rmX5_lumbago E [.ref (eA E 0), .int a1] σ Q := by
  refine metI (cc := cX5_lumbago) (nL := 3) (ret := (some .int)) (lv := [(0, .ref (eA E 0)), (1, .int a1)]) (by decide) rfl (Nat.le_of_ble_eq_true rfl) rfl ?_
  intro p e s m args below meth c C
  unfold wp_X5_lumbago at h
  refine j_iload_n C 1 dX5_lumbago_0 rfl 1 rfl ?_
  refine j_iconst (v := (0 : Int32)) C dX5_lumbago_1 (by decide) ?_
  refine j_bipush (v := (9 : Int32)) C dX5_lumbago_2 (by decide) ?_
  refine j_callSI (As := [.int a1, .int (0 : Int32), .int (9 : Int32)]) (rest := []) C (c_X5_within h) (va_cwS 3 C.2.2.2.2.2.1 gX5_lumbago_X5_within rfl rfl rfl hdX5_within.2 ⟨Nat.le_of_ble_eq_true rfl, Nat.le_of_ble_eq_true rfl⟩) rfl rfl (Nat.le_of_ble_eq_true rfl) dX5_lumbago_4 (fun r2 σ1 h => ?_)
  refine j_if_ne C 12 dX5_lumbago_7 (by decide) (fun c3 => ?_) (fun c3 => ?_)
  · replace h := h.1 c3
    refine j_aload_n C 0 dX5_lumbago_12 rfl 0 rfl ?_
    refine j_getR C 12 0 1 rfl rfl rfl in_X5_lumbago_X5 (by decide) (by decide +kernel) dX5_lumbago_13 ?_
    refine j_getI C 12 3 (shp_dyn (rfl)) rfl rfl in_X5_lumbago_X0 (by decide) (by decide +kernel) dX5_lumbago_16 ?_
    refine j_topi (fun v4 ev4 => ?_)
    replace h := h v4 ev4
    refine j_istore_n (lv' := [(2, .int v4), (0, .ref (eA E 0)), (1, .int a1)]) C 2 dX5_lumbago_19 rfl (by decide) rfl ?_
    refine j_aload_n C 0 dX5_lumbago_20 rfl 1 rfl ?_
    refine j_getR C 12 0 1 rfl rfl rfl in_X5_lumbago_X5 (by decide) (by decide +kernel) dX5_lumbago_21 ?_
    refine j_iload_n C 1 dX5_lumbago_24 rfl 2 rfl ?_
    refine j_put C 12 3 (shp_dyn (rfl)) rfl rfl in_X5_lumbago_X0 tyX0 tyX0_ok nmX0 (by decide) (by decide +kernel) rfl rfl rfl rfl dX5_lumbago_25 ?_
    refine j_mem (fun σ5 eσ5 => ?_)
    replace h := h σ5 eσ5
    refine j_iload_n C 2 dX5_lumbago_28 rfl 0 rfl ?_
    exact j_iret C dX5_lumbago_29 h
  · replace h := h.2 c3
    refine j_iconst (v := (-1 : Int32)) C dX5_lumbago_10 (by decide) ?_
    exact j_iret C dX5_lumbago_11 h
def wp_X5_works (a1 : Int32) (σ : Mem) (Q : Int32 → Mem → Prop) : Prop :=
  wp_X5_within a1 (0 : Int32) (999 : Int32) σ (fun r2 σ1 => (¬ r2 = 0 → ∀ v4 : Int32, v4 = (σ1.1 12 4) → ∀ σ5 : Mem, σ5 = st1 σ1 12 4 a1 → Q v4 σ5) ∧ (r2 = 0 → Q (-1 : Int32) σ1))
theorem in_X5_works_X0 : ∀ w ∈ wsX00, w ∈ wsX5_works := fun _ h => List.mem_cons_of_mem _ (List.mem_append_right _ h)
theorem in_X5_works_X5 : ∀ w ∈ wsX50, w ∈ wsX5_works := fun _ h => List.mem_cons_of_mem _ (List.mem_append_left _ (List.mem_append_right _ h))
def rmX5_works : Room := { frames := 1, cells := 0, slots := 0, locals := 22 }
theorem hdX5_works : yX5_works.cls = RX5 ∧ yX5_works.cls ≠ "java/lang/invoke/MethodHandle" ∧ yX5_works.cls ≠ "java/lang/invoke/VarHandle" ∧ (parseMethodDescriptor yX5_works.desc).map (fun d => d.parameters.length) = some 1 := by decide +kernel
set_option maxHeartbeats 4000000 in
set_option maxRecDepth 100000 in
theorem c_X5_works {l : Launch} {E : EE} {a1 : Int32}  {σ : Mem} {Q : Int32 → Mem → Prop} (h : wp_X5_works a1 σ Q) : CtI l yX5_works wsX5_works rmX5_works E [.ref (eA E 0), .int a1] σ Q := by
  refine metI (cc := cX5_works) (nL := 3) (ret := (some .int)) (lv := [(0, .ref (eA E 0)), (1, .int a1)]) (by decide) rfl (Nat.le_of_ble_eq_true rfl) rfl ?_
  intro p e s m args below meth c C
  unfold wp_X5_works at h
  refine j_iload_n C 1 dX5_works_0 rfl 1 rfl ?_
  refine j_iconst (v := (0 : Int32)) C dX5_works_1 (by decide) ?_
  refine j_sipush (v := (999 : Int32)) C dX5_works_2 (by decide) ?_
  refine j_callSI (As := [.int a1, .int (0 : Int32), .int (999 : Int32)]) (rest := []) C (c_X5_within h) (va_cwS 3 C.2.2.2.2.2.1 gX5_works_X5_within rfl rfl rfl hdX5_within.2 ⟨Nat.le_of_ble_eq_true rfl, Nat.le_of_ble_eq_true rfl⟩) rfl rfl (Nat.le_of_ble_eq_true rfl) dX5_works_5 (fun r2 σ1 h => ?_)
  refine j_if_ne C 13 dX5_works_8 (by decide) (fun c3 => ?_) (fun c3 => ?_)
  · replace h := h.1 c3
    refine j_aload_n C 0 dX5_works_13 rfl 0 rfl ?_
    refine j_getR C 12 0 1 rfl rfl rfl in_X5_works_X5 (by decide) (by decide +kernel) dX5_works_14 ?_
    refine j_getI C 12 4 (shp_dyn (rfl)) rfl rfl in_X5_works_X0 (by decide) (by decide +kernel) dX5_works_17 ?_
    refine j_topi (fun v4 ev4 => ?_)
    replace h := h v4 ev4
    refine j_istore_n (lv' := [(2, .int v4), (0, .ref (eA E 0)), (1, .int a1)]) C 2 dX5_works_20 rfl (by decide) rfl ?_
    refine j_aload_n C 0 dX5_works_21 rfl 1 rfl ?_
    refine j_getR C 12 0 1 rfl rfl rfl in_X5_works_X5 (by decide) (by decide +kernel) dX5_works_22 ?_
    refine j_iload_n C 1 dX5_works_25 rfl 2 rfl ?_
    refine j_put C 12 4 (shp_dyn (rfl)) rfl rfl in_X5_works_X0 tyX0 tyX0_ok nmX0 (by decide) (by decide +kernel) rfl rfl rfl rfl dX5_works_26 ?_
    refine j_mem (fun σ5 eσ5 => ?_)
    replace h := h σ5 eσ5
    refine j_iload_n C 2 dX5_works_29 rfl 0 rfl ?_
    exact j_iret C dX5_works_30 h
  · replace h := h.2 c3
    refine j_iconst (v := (-1 : Int32)) C dX5_works_11 (by decide) ?_
    exact j_iret C dX5_works_12 h
def wp_X5_change (a1 : Int32) (a2 : Int32) (σ : Mem) (Q : Int32 → Mem → Prop) : Prop :=
  wp_X5_isPlace a1 σ (fun r2 σ1 => (r2 = 0 → Q (-1 : Int32) σ1) ∧ (¬ r2 = 0 → wp_X5_isPlace a2 σ1 (fun r5 σ4 => (r5 = 0 → Q (-1 : Int32) σ4) ∧ (¬ r5 = 0 → (¬ a1 = a2 → vp_in a1 6 ∧ (∀ v8 : Int32, v8 = (σ4.1 (12 + 6) (a1).toNatClampNeg) → wp_X0_swap 12 a1 a2 σ4 (fun σ9 => Q v8 σ9))) ∧ (a1 = a2 → Q (-1 : Int32) σ4)))))
theorem in_X5_change_X0 : ∀ w ∈ wsX00, w ∈ wsX5_change := fun _ h => List.mem_cons_of_mem _ (List.mem_append_right _ h)
theorem in_X5_change_X5 : ∀ w ∈ wsX50, w ∈ wsX5_change := fun _ h => List.mem_cons_of_mem _ (List.mem_append_left _ (List.mem_append_right _ h))
def rmX5_change : Room := { frames := 2, cells := 0, slots := 0, locals := 43 }
theorem hdX5_change : yX5_change.cls = RX5 ∧ yX5_change.cls ≠ "java/lang/invoke/MethodHandle" ∧ yX5_change.cls ≠ "java/lang/invoke/VarHandle" ∧ (parseMethodDescriptor yX5_change.desc).map (fun d => d.parameters.length) = some 2 := by decide +kernel
set_option maxHeartbeats 4000000 in
set_option maxRecDepth 100000 in
theorem c_X5_change {l : Launch} {E : EE} {a1 : Int32} {a2 : Int32}  {σ : Mem} {Q : Int32 → Mem → Prop} (h : wp_X5_change a1 a2 σ Q) : CtI l yX5_change wsX5_change rmX5_change E [.ref (eA E 0), .int a1, .int a2] σ Q := by
  refine metI (cc := cX5_change) (nL := 4) (ret := (some .int)) (lv := [(0, .ref (eA E 0)), (1, .int a1), (2, .int a2)]) (by decide) rfl (Nat.le_of_ble_eq_true rfl) rfl ?_
  intro p e s m args below meth c C
  unfold wp_X5_change at h
  refine j_aload_n C 0 dX5_change_0 rfl 0 rfl ?_
  refine j_iload_n C 1 dX5_change_1 rfl 1 rfl ?_
  refine j_callVI (As := [.int a1]) (rest := []) C 0 (c_X5_isPlace h) (cwV 1 C.2.2.2.2.2.1 gX5_change_X5_isPlace rfl rfl rfl hdX5_isPlace ⟨Nat.le_of_ble_eq_true rfl, Nat.le_of_ble_eq_true rfl⟩) rfl rfl rfl rfl (Nat.le_of_ble_eq_true rfl) dX5_change_2 (fun r2 σ1 h => ?_)
  refine j_if_eq C 21 dX5_change_5 (by decide) (fun c3 => ?_) (fun c3 => ?_)
  · replace h := h.1 c3
    refine j_iconst (v := (-1 : Int32)) C dX5_change_21 (by decide) ?_
    exact j_iret C dX5_change_22 h
  · replace h := h.2 c3
    refine j_aload_n C 0 dX5_change_8 rfl 0 rfl ?_
    refine j_iload_n C 2 dX5_change_9 rfl 2 rfl ?_
    refine j_callVI (As := [.int a2]) (rest := []) C 0 (c_X5_isPlace h) (cwV 1 C.2.2.2.2.2.1 gX5_change_X5_isPlace rfl rfl rfl hdX5_isPlace ⟨Nat.le_of_ble_eq_true rfl, Nat.le_of_ble_eq_true rfl⟩) rfl rfl rfl rfl (Nat.le_of_ble_eq_true rfl) dX5_change_10 (fun r5 σ4 h => ?_)
    refine j_if_eq C 21 dX5_change_13 (by decide) (fun c6 => ?_) (fun c6 => ?_)
    · replace h := h.1 c6
      refine j_iconst (v := (-1 : Int32)) C dX5_change_21 (by decide) ?_
      exact j_iret C dX5_change_22 h
    · replace h := h.2 c6
      refine j_iload_n C 1 dX5_change_16 rfl 1 rfl ?_
      refine j_iload_n C 2 dX5_change_17 rfl 2 rfl ?_
      refine j_icmp_ne C 23 dX5_change_18 (by decide) (fun c7 => ?_) (fun c7 => ?_)
      · replace h := h.1 c7
        refine j_aload_n C 0 dX5_change_23 rfl 0 rfl ?_
        refine j_getR C 12 0 1 rfl rfl rfl in_X5_change_X5 (by decide) (by decide +kernel) dX5_change_24 ?_
        refine j_getR C (12 + 6) 12 1 (shp_dyn (rfl)) rfl rfl in_X5_change_X0 (by decide) (by decide +kernel) dX5_change_27 ?_
        refine j_iload_n C 1 dX5_change_30 rfl 1 rfl ?_
        refine j_iald C (12 + 6) (shp_dynL (rfl)) dX5_change_31 h.1 ?_
        replace h := h.2
        refine j_topi (fun v8 ev8 => ?_)
        replace h := h v8 ev8
        refine j_istore_n (lv' := [(3, .int v8), (0, .ref (eA E 0)), (1, .int a1), (2, .int a2)]) C 3 dX5_change_32 rfl (by decide) rfl ?_
        refine j_aload_n C 0 dX5_change_33 rfl 1 rfl ?_
        refine j_getR C 12 0 1 rfl rfl rfl in_X5_change_X5 (by decide) (by decide +kernel) dX5_change_34 ?_
        refine j_iload_n C 1 dX5_change_37 rfl 2 rfl ?_
        refine j_iload_n C 2 dX5_change_38 rfl 3 rfl ?_
        refine j_callVV (As := [.int a1, .int a2]) (rest := []) C 12 (c_X0_swap (rfl) h) (cwV 2 C.2.2.2.2.2.1 gX5_change_X0_swap rfl rfl rfl hdX0_swap ⟨Nat.le_of_ble_eq_true rfl, Nat.le_of_ble_eq_true rfl⟩) (shp_dyn (rfl)) rfl rfl rfl (Nat.le_of_ble_eq_true rfl) dX5_change_39 (fun σ9 h => ?_)
        refine j_iload_n C 3 dX5_change_42 rfl 0 rfl ?_
        exact j_iret C dX5_change_43 h
      · replace h := h.2 c7
        refine j_iconst (v := (-1 : Int32)) C dX5_change_21 (by decide) ?_
        exact j_iret C dX5_change_22 h
def wp_X5_bear (a1 : Int32) (a2 : Int32) (a3 : Int32) (σ : Mem) (Q : Int32 → Mem → Prop) : Prop :=
  wp_X5_isTrait (1 : Int32) a1 σ (fun r2 σ1 => (r2 = 0 → Q (-1 : Int32) σ1) ∧ (¬ r2 = 0 → wp_X5_isTrait (2 : Int32) a2 σ1 (fun r5 σ4 => (r5 = 0 → Q (-1 : Int32) σ4) ∧ (¬ r5 = 0 → wp_X5_isTrait (3 : Int32) a3 σ4 (fun r8 σ7 => (¬ r8 = 0 → wp_X0_add 12 (0 : Int32) a1 a2 a3 σ7 (fun r11 σ10 => (r11 = 0 → Q (-3 : Int32) σ10) ∧ (¬ r11 = 0 → Q (σ10.1 12 2) σ10))) ∧ (r8 = 0 → Q (-1 : Int32) σ7))))))
theorem in_X5_bear_X0 : ∀ w ∈ wsX00, w ∈ wsX5_bear := fun _ h => List.mem_cons_of_mem _ (List.mem_append_right _ h)
theorem in_X5_bear_X5 : ∀ w ∈ wsX50, w ∈ wsX5_bear := fun _ h => List.mem_cons_of_mem _ (List.mem_append_left _ (List.mem_append_right _ h))
def rmX5_bear : Room := { frames := 2, cells := 0, slots := 0, locals := 43 }
theorem hdX5_bear : yX5_bear.cls = RX5 ∧ yX5_bear.cls ≠ "java/lang/invoke/MethodHandle" ∧ yX5_bear.cls ≠ "java/lang/invoke/VarHandle" ∧ (parseMethodDescriptor yX5_bear.desc).map (fun d => d.parameters.length) = some 3 := by decide +kernel
set_option maxHeartbeats 4000000 in
set_option maxRecDepth 100000 in
theorem c_X5_bear {l : Launch} {E : EE} {a1 : Int32} {a2 : Int32} {a3 : Int32}  {σ : Mem} {Q : Int32 → Mem → Prop} (h : wp_X5_bear a1 a2 a3 σ Q) : CtI l yX5_bear wsX5_bear rmX5_bear E [.ref (eA E 0), .int a1, .int a2, .int a3] σ Q := by
  refine metI (cc := cX5_bear) (nL := 4) (ret := (some .int)) (lv := [(0, .ref (eA E 0)), (1, .int a1), (2, .int a2), (3, .int a3)]) (by decide) rfl (Nat.le_of_ble_eq_true rfl) rfl ?_
  intro p e s m args below meth c C
  unfold wp_X5_bear at h
  refine j_iconst (v := (1 : Int32)) C dX5_bear_0 (by decide) ?_
  refine j_iload_n C 1 dX5_bear_1 rfl 1 rfl ?_
  refine j_callSI (As := [.int (1 : Int32), .int a1]) (rest := []) C (c_X5_isTrait h) (va_cwS 2 C.2.2.2.2.2.1 gX5_bear_X5_isTrait rfl rfl rfl hdX5_isTrait.2 ⟨Nat.le_of_ble_eq_true rfl, Nat.le_of_ble_eq_true rfl⟩) rfl rfl (Nat.le_of_ble_eq_true rfl) dX5_bear_2 (fun r2 σ1 h => ?_)
  refine j_if_eq C 24 dX5_bear_5 (by decide) (fun c3 => ?_) (fun c3 => ?_)
  · replace h := h.1 c3
    refine j_iconst (v := (-1 : Int32)) C dX5_bear_24 (by decide) ?_
    exact j_iret C dX5_bear_25 h
  · replace h := h.2 c3
    refine j_iconst (v := (2 : Int32)) C dX5_bear_8 (by decide) ?_
    refine j_iload_n C 2 dX5_bear_9 rfl 2 rfl ?_
    refine j_callSI (As := [.int (2 : Int32), .int a2]) (rest := []) C (c_X5_isTrait h) (va_cwS 2 C.2.2.2.2.2.1 gX5_bear_X5_isTrait rfl rfl rfl hdX5_isTrait.2 ⟨Nat.le_of_ble_eq_true rfl, Nat.le_of_ble_eq_true rfl⟩) rfl rfl (Nat.le_of_ble_eq_true rfl) dX5_bear_10 (fun r5 σ4 h => ?_)
    refine j_if_eq C 24 dX5_bear_13 (by decide) (fun c6 => ?_) (fun c6 => ?_)
    · replace h := h.1 c6
      refine j_iconst (v := (-1 : Int32)) C dX5_bear_24 (by decide) ?_
      exact j_iret C dX5_bear_25 h
    · replace h := h.2 c6
      refine j_iconst (v := (3 : Int32)) C dX5_bear_16 (by decide) ?_
      refine j_iload_n C 3 dX5_bear_17 rfl 3 rfl ?_
      refine j_callSI (As := [.int (3 : Int32), .int a3]) (rest := []) C (c_X5_isTrait h) (va_cwS 2 C.2.2.2.2.2.1 gX5_bear_X5_isTrait rfl rfl rfl hdX5_isTrait.2 ⟨Nat.le_of_ble_eq_true rfl, Nat.le_of_ble_eq_true rfl⟩) rfl rfl (Nat.le_of_ble_eq_true rfl) dX5_bear_18 (fun r8 σ7 h => ?_)
      refine j_if_ne C 26 dX5_bear_21 (by decide) (fun c9 => ?_) (fun c9 => ?_)
      · replace h := h.1 c9
        refine j_aload_n C 0 dX5_bear_26 rfl 0 rfl ?_
        refine j_getR C 12 0 1 rfl rfl rfl in_X5_bear_X5 (by decide) (by decide +kernel) dX5_bear_27 ?_
        refine j_iconst (v := (0 : Int32)) C dX5_bear_30 (by decide) ?_
        refine j_iload_n C 1 dX5_bear_31 rfl 1 rfl ?_
        refine j_iload_n C 2 dX5_bear_32 rfl 2 rfl ?_
        refine j_iload_n C 3 dX5_bear_33 rfl 3 rfl ?_
        refine j_callVI (As := [.int (0 : Int32), .int a1, .int a2, .int a3]) (rest := []) C 12 (c_X0_add (rfl) h) (cwV 4 C.2.2.2.2.2.1 gX5_bear_X0_add rfl rfl rfl hdX0_add ⟨Nat.le_of_ble_eq_true rfl, Nat.le_of_ble_eq_true rfl⟩) (shp_dyn (rfl)) rfl rfl rfl (Nat.le_of_ble_eq_true rfl) dX5_bear_34 (fun r11 σ10 h => ?_)
        refine j_if_eq C 50 dX5_bear_37 (by decide) (fun c12 => ?_) (fun c12 => ?_)
        · replace h := h.1 c12
          refine j_bipush (v := (-3 : Int32)) C dX5_bear_50 (by decide) ?_
          exact j_iret C dX5_bear_52 h
        · replace h := h.2 c12
          refine j_aload_n C 0 dX5_bear_40 rfl 0 rfl ?_
          refine j_getR C 12 0 1 rfl rfl rfl in_X5_bear_X5 (by decide) (by decide +kernel) dX5_bear_41 ?_
          refine j_getI C 12 2 (shp_dyn (rfl)) rfl rfl in_X5_bear_X0 (by decide) (by decide +kernel) dX5_bear_44 ?_
          refine j_goto C 52 dX5_bear_47 (by decide) ?_
          exact j_iret C dX5_bear_52 h
      · replace h := h.2 c9
        refine j_iconst (v := (-1 : Int32)) C dX5_bear_24 (by decide) ?_
        exact j_iret C dX5_bear_25 h
def wp_X5_refusal (a1 : Int32) (σ : Mem) (Q : Int32 → Mem → Prop) : Prop :=
  (¬ a1 = 0 → ((2 : Int32) ≤ (σ.1 12 2) → Q (0 : Int32) σ) ∧ (¬ (2 : Int32) ≤ (σ.1 12 2) → Q (-2 : Int32) σ)) ∧ (a1 = 0 → Q (-1 : Int32) σ)
theorem in_X5_refusal_X0 : ∀ w ∈ wsX00, w ∈ wsX5_refusal := fun _ h => List.mem_cons_of_mem _ (List.mem_append_right _ h)
theorem in_X5_refusal_X5 : ∀ w ∈ wsX50, w ∈ wsX5_refusal := fun _ h => List.mem_cons_of_mem _ (List.mem_append_left _ (List.mem_append_right _ h))
def rmX5_refusal : Room := { frames := 0, cells := 0, slots := 0, locals := 0 }
theorem hdX5_refusal : yX5_refusal.cls = RX5 ∧ yX5_refusal.cls ≠ "java/lang/invoke/MethodHandle" ∧ yX5_refusal.cls ≠ "java/lang/invoke/VarHandle" ∧ (parseMethodDescriptor yX5_refusal.desc).map (fun d => d.parameters.length) = some 1 := by decide +kernel
set_option maxHeartbeats 4000000 in
set_option maxRecDepth 100000 in
theorem c_X5_refusal {l : Launch} {E : EE} {a1 : Int32}  {σ : Mem} {Q : Int32 → Mem → Prop} (h : wp_X5_refusal a1 σ Q) : CtI l yX5_refusal wsX5_refusal rmX5_refusal E [.ref (eA E 0), .int a1] σ Q := by
  refine metI (cc := cX5_refusal) (nL := 2) (ret := (some .int)) (lv := [(0, .ref (eA E 0)), (1, .int a1)]) (by decide) rfl (Nat.le_of_ble_eq_true rfl) rfl ?_
  intro p e s m args below meth c C
  unfold wp_X5_refusal at h
  refine j_iload_n C 1 dX5_refusal_0 rfl 1 rfl ?_
  refine j_if_ne C 6 dX5_refusal_1 (by decide) (fun c1 => ?_) (fun c1 => ?_)
  · replace h := h.1 c1
    refine j_aload_n C 0 dX5_refusal_6 rfl 0 rfl ?_
    refine j_getR C 12 0 1 rfl rfl rfl in_X5_refusal_X5 (by decide) (by decide +kernel) dX5_refusal_7 ?_
    refine j_getI C 12 2 (shp_dyn (rfl)) rfl rfl in_X5_refusal_X0 (by decide) (by decide +kernel) dX5_refusal_10 ?_
    refine j_iconst (v := (2 : Int32)) C dX5_refusal_13 (by decide) ?_
    refine j_icmp_ge C 22 dX5_refusal_14 (by decide) (fun c2 => ?_) (fun c2 => ?_)
    · replace h := h.1 c2
      refine j_iconst (v := (0 : Int32)) C dX5_refusal_22 (by decide) ?_
      exact j_iret C dX5_refusal_23 h
    · replace h := h.2 c2
      refine j_bipush (v := (-2 : Int32)) C dX5_refusal_17 (by decide) ?_
      refine j_goto C 23 dX5_refusal_19 (by decide) ?_
      exact j_iret C dX5_refusal_23 h
  · replace h := h.2 c1
    refine j_iconst (v := (-1 : Int32)) C dX5_refusal_4 (by decide) ?_
    exact j_iret C dX5_refusal_5 h
def wp_X5_reigns (a1 : Int32) (σ : Mem) (Q : Int32 → Mem → Prop) : Prop :=
  wp_X5_within a1 (0 : Int32) (30 : Int32) σ (fun r2 σ1 => wp_X5_refusal r2 σ1 (fun r4 σ3 => (r4 = 0 → (((σ3.1 12 5) + a1) ≤ (999 : Int32) → wp_X0_worksBehind 12 a1 σ3 (fun r8 σ7 => Q r8 σ7)) ∧ (¬ ((σ3.1 12 5) + a1) ≤ (999 : Int32) → Q (-3 : Int32) σ3)) ∧ (¬ r4 = 0 → Q r4 σ3)))
theorem in_X5_reigns_X0 : ∀ w ∈ wsX00, w ∈ wsX5_reigns := fun _ h => List.mem_cons_of_mem _ (List.mem_append_right _ h)
theorem in_X5_reigns_X5 : ∀ w ∈ wsX50, w ∈ wsX5_reigns := fun _ h => List.mem_cons_of_mem _ (List.mem_append_left _ (List.mem_append_right _ h))
def rmX5_reigns : Room := { frames := 6, cells := 0, slots := 0, locals := 129 }
theorem hdX5_reigns : yX5_reigns.cls = RX5 ∧ yX5_reigns.cls ≠ "java/lang/invoke/MethodHandle" ∧ yX5_reigns.cls ≠ "java/lang/invoke/VarHandle" ∧ (parseMethodDescriptor yX5_reigns.desc).map (fun d => d.parameters.length) = some 1 := by decide +kernel
set_option maxHeartbeats 4000000 in
set_option maxRecDepth 100000 in
theorem c_X5_reigns {l : Launch} {E : EE} {a1 : Int32}  {σ : Mem} {Q : Int32 → Mem → Prop} (h : wp_X5_reigns a1 σ Q) : CtI l yX5_reigns wsX5_reigns rmX5_reigns E [.ref (eA E 0), .int a1] σ Q := by
  refine metI (cc := cX5_reigns) (nL := 3) (ret := (some .int)) (lv := [(0, .ref (eA E 0)), (1, .int a1)]) (by decide) rfl (Nat.le_of_ble_eq_true rfl) rfl ?_
  intro p e s m args below meth c C
  unfold wp_X5_reigns at h
  refine j_aload_n C 0 dX5_reigns_0 rfl 0 rfl ?_
  refine j_iload_n C 1 dX5_reigns_1 rfl 1 rfl ?_
  refine j_iconst (v := (0 : Int32)) C dX5_reigns_2 (by decide) ?_
  refine j_bipush (v := (30 : Int32)) C dX5_reigns_3 (by decide) ?_
  refine j_callSI (As := [.int a1, .int (0 : Int32), .int (30 : Int32)]) (rest := [.ref (eA E 0)]) C (c_X5_within h) (va_cwS 3 C.2.2.2.2.2.1 gX5_reigns_X5_within rfl rfl rfl hdX5_within.2 ⟨Nat.le_of_ble_eq_true rfl, Nat.le_of_ble_eq_true rfl⟩) rfl rfl (Nat.le_of_ble_eq_true rfl) dX5_reigns_5 (fun r2 σ1 h => ?_)
  refine j_callVI (As := [.int r2]) (rest := []) C 0 (c_X5_refusal h) (cwV 1 C.2.2.2.2.2.1 gX5_reigns_X5_refusal rfl rfl rfl hdX5_refusal ⟨Nat.le_of_ble_eq_true rfl, Nat.le_of_ble_eq_true rfl⟩) rfl rfl rfl rfl (Nat.le_of_ble_eq_true rfl) dX5_reigns_8 (fun r4 σ3 h => ?_)
  refine j_istore_n (lv' := [(2, .int r4), (0, .ref (eA E 0)), (1, .int a1)]) C 2 dX5_reigns_11 rfl (by decide) rfl ?_
  refine j_iload_n C 2 dX5_reigns_12 rfl 0 rfl ?_
  refine j_if_eq C 18 dX5_reigns_13 (by decide) (fun c5 => ?_) (fun c5 => ?_)
  · replace h := h.1 c5
    refine j_aload_n C 0 dX5_reigns_18 rfl 1 rfl ?_
    refine j_getR C 12 0 1 rfl rfl rfl in_X5_reigns_X5 (by decide) (by decide +kernel) dX5_reigns_19 ?_
    refine j_getI C 12 5 (shp_dyn (rfl)) rfl rfl in_X5_reigns_X0 (by decide) (by decide +kernel) dX5_reigns_22 ?_
    refine j_iload_n C 1 dX5_reigns_25 rfl 2 rfl ?_
    refine j_iadd C dX5_reigns_26 ?_
    refine j_sipush (v := (999 : Int32)) C dX5_reigns_27 (by decide) ?_
    refine j_icmp_le C 36 dX5_reigns_30 (by decide) (fun c6 => ?_) (fun c6 => ?_)
    · replace h := h.1 c6
      refine j_aload_n C 0 dX5_reigns_36 rfl 1 rfl ?_
      refine j_getR C 12 0 1 rfl rfl rfl in_X5_reigns_X5 (by decide) (by decide +kernel) dX5_reigns_37 ?_
      refine j_iload_n C 1 dX5_reigns_40 rfl 2 rfl ?_
      refine j_callVI (As := [.int a1]) (rest := []) C 12 (c_X0_worksBehind (rfl) h) (cwV 1 C.2.2.2.2.2.1 gX5_reigns_X0_worksBehind rfl rfl rfl hdX0_worksBehind ⟨Nat.le_of_ble_eq_true rfl, Nat.le_of_ble_eq_true rfl⟩) (shp_dyn (rfl)) rfl rfl rfl (Nat.le_of_ble_eq_true rfl) dX5_reigns_41 (fun r8 σ7 h => ?_)
      exact j_iret C dX5_reigns_44 h
    · replace h := h.2 c6
      refine j_bipush (v := (-3 : Int32)) C dX5_reigns_33 (by decide) ?_
      exact j_iret C dX5_reigns_35 h
  · replace h := h.2 c5
    refine j_iload_n C 2 dX5_reigns_16 rfl 0 rfl ?_
    exact j_iret C dX5_reigns_17 h
def wp_X5_isAhead (a0 : Int32) (σ : Mem) (Q : Int32 → Mem → Prop) : Prop :=
  wp_X5_within a0 (0 : Int32) (60 : Int32) σ (fun r2 σ1 => (r2 = 0 ∨ r2 = 1) ∧ Q r2 σ1)
def rmX5_isAhead : Room := { frames := 1, cells := 0, slots := 0, locals := 22 }
theorem hdX5_isAhead : yX5_isAhead.cls = RX5 ∧ yX5_isAhead.cls ≠ "java/lang/invoke/MethodHandle" ∧ yX5_isAhead.cls ≠ "java/lang/invoke/VarHandle" ∧ (parseMethodDescriptor yX5_isAhead.desc).map (fun d => d.parameters.length) = some 1 := by decide +kernel
set_option maxHeartbeats 4000000 in
set_option maxRecDepth 100000 in
theorem c_X5_isAhead {l : Launch} {E : EE} {a0 : Int32}  {σ : Mem} {Q : Int32 → Mem → Prop} (h : wp_X5_isAhead a0 σ Q) : CtI l yX5_isAhead wsX5_isAhead rmX5_isAhead E [.int a0] σ Q := by
  refine metI (cc := cX5_isAhead) (nL := 1) (ret := (some .boolean)) (lv := [(0, .int a0)]) (by decide) rfl (Nat.le_of_ble_eq_true rfl) rfl ?_
  intro p e s m args below meth c C
  unfold wp_X5_isAhead at h
  refine j_iload_n C 0 dX5_isAhead_0 rfl 0 rfl ?_
  refine j_iconst (v := (0 : Int32)) C dX5_isAhead_1 (by decide) ?_
  refine j_bipush (v := (60 : Int32)) C dX5_isAhead_2 (by decide) ?_
  refine j_callSI (As := [.int a0, .int (0 : Int32), .int (60 : Int32)]) (rest := []) C (c_X5_within h) (va_cwS 3 C.2.2.2.2.2.1 gX5_isAhead_X5_within rfl rfl rfl hdX5_within.2 ⟨Nat.le_of_ble_eq_true rfl, Nat.le_of_ble_eq_true rfl⟩) rfl rfl (Nat.le_of_ble_eq_true rfl) dX5_isAhead_4 (fun r2 σ1 h => ?_)
  exact j_zret C dX5_isAhead_7 h.1 h.2
def wp_X5_runs (a1 : Int32) (a2 : Int32) (σ : Mem) (Q : Int32 → Mem → Prop) : Prop :=
  ∀ (P21 : Mem → Prop) (P22 : Int32 → Mem → Prop) (P50 : Int32 → Int32 → Mem → Prop) (P85 : Int32 → Int32 → Mem → Prop),
  (∀ (σ : Mem), (P22 (0 : Int32) σ) → P21 σ) →
  (∀ (s0 : Int32) (σ : Mem), (wp_X5_refusal s0 σ (fun r2 σ1 => (r2 = 0 → wp_X0_copyFrom 19 12 σ1 (fun σ4 => P50 (-4 : Int32) (1 : Int32) σ4)) ∧ (¬ r2 = 0 → Q r2 σ1))) → P22 s0 σ) →
  (∀ (x4 : Int32) (x5 : Int32) (σ : Mem), ((a1 < x5 → (a2 = (0 : Int32) → Q (σ.1 19 4) σ) ∧ (a2 = (1 : Int32) → Q ((σ.1 19 6) - (σ.1 12 6)) σ) ∧ (a2 = (2 : Int32) → Q ((σ.1 19 7) - (σ.1 12 7)) σ) ∧ (a2 = (3 : Int32) → Q x4 σ) ∧ (¬ a2 = (0 : Int32) → ¬ a2 = (1 : Int32) → ¬ a2 = (2 : Int32) → ¬ a2 = (3 : Int32) → Q (σ.1 19 8) σ)) ∧ (¬ a1 < x5 → wp_X0_crown 19 (0 : Int32) σ (fun σ10 => (¬ (σ10.1 19 10) = 0 → P85 x4 x5 σ10) ∧ ((σ10.1 19 10) = 0 → (¬ x4 = (-4 : Int32) → P85 x4 x5 σ10) ∧ (x4 = (-4 : Int32) → P85 x5 x5 σ10))))) → P50 x4 x5 σ) →
  (∀ (x4 : Int32) (x5 : Int32) (σ : Mem), (∀ v13 : Int32, v13 = x5 + (1 : Int32) → P50 x4 v13 σ) → P85 x4 x5 σ) →
  wp_X5_isAhead a1 σ (fun r15 σ14 => (r15 = 0 → P21 σ14) ∧ (¬ r15 = 0 → wp_X5_within a2 (0 : Int32) (4 : Int32) σ14 (fun r18 σ17 => (r18 = 0 → P21 σ17) ∧ (¬ r18 = 0 → P22 (1 : Int32) σ17))))
theorem in_X5_runs_X0 : ∀ w ∈ wsX00, w ∈ wsX5_runs := fun _ h => List.mem_cons_of_mem _ (List.mem_append_right _ h)
theorem in_X5_runs_X5 : ∀ w ∈ wsX50, w ∈ wsX5_runs := fun _ h => List.mem_cons_of_mem _ (List.mem_append_left _ (List.mem_append_right _ h))
def rmX5_runs : Room := { frames := 4, cells := 0, slots := 0, locals := 86 }
theorem hdX5_runs : yX5_runs.cls = RX5 ∧ yX5_runs.cls ≠ "java/lang/invoke/MethodHandle" ∧ yX5_runs.cls ≠ "java/lang/invoke/VarHandle" ∧ (parseMethodDescriptor yX5_runs.desc).map (fun d => d.parameters.length) = some 2 := by decide +kernel
set_option maxHeartbeats 4000000 in
set_option maxRecDepth 100000 in
theorem c_X5_runs {l : Launch} {E : EE} {a1 : Int32} {a2 : Int32}  {σ : Mem} {Q : Int32 → Mem → Prop} (h : wp_X5_runs a1 a2 σ Q) : CtI l yX5_runs wsX5_runs rmX5_runs E [.ref (eA E 0), .int a1, .int a2] σ Q := by
  refine metI (cc := cX5_runs) (nL := 6) (ret := (some .int)) (lv := [(0, .ref (eA E 0)), (1, .int a1), (2, .int a2)]) (by decide) rfl (Nat.le_of_ble_eq_true rfl) rfl ?_
  intro p e s m args below meth c C
  unfold wp_X5_runs at h
  replace h := h (fun (σ : Mem) => J E p l e rmX5_runs s m args below meth c (QI E below args s Q) 6 21 [(0, .ref (eA E 0)), (1, .int a1), (2, .int a2)] [.ref (eA E 0)] σ) (fun (s0 : Int32) (σ : Mem) => J E p l e rmX5_runs s m args below meth c (QI E below args s Q) 6 22 [(0, .ref (eA E 0)), (1, .int a1), (2, .int a2)] [.int s0, .ref (eA E 0)] σ) (fun (x4 : Int32) (x5 : Int32) (σ : Mem) => J E p l e rmX5_runs s m args below meth c (QI E below args s Q) 6 50 [(0, .ref (eA E 0)), (1, .int a1), (2, .int a2), (4, .int x4), (5, .int x5)] [] σ) (fun (x4 : Int32) (x5 : Int32) (σ : Mem) => J E p l e rmX5_runs s m args below meth c (QI E below args s Q) 6 85 [(0, .ref (eA E 0)), (1, .int a1), (2, .int a2), (4, .int x4), (5, .int x5)] [] σ) (by
    intro σ h
    refine j_iconst (v := (0 : Int32)) C dX5_runs_21 (by decide) ?_
    exact j_sub (lv' := [(0, .ref (eA E 0)), (1, .int a1), (2, .int a2)]) [0, 1, 2] rfl h) (by
    intro s0 σ h
    refine j_callVI (As := [.int s0]) (rest := []) C 0 (c_X5_refusal h) (cwV 1 C.2.2.2.2.2.1 gX5_runs_X5_refusal rfl rfl rfl hdX5_refusal ⟨Nat.le_of_ble_eq_true rfl, Nat.le_of_ble_eq_true rfl⟩) rfl rfl rfl rfl (Nat.le_of_ble_eq_true rfl) dX5_runs_22 (fun r2 σ1 h => ?_)
    refine j_istore_n (lv' := [(3, .int r2), (0, .ref (eA E 0)), (1, .int a1), (2, .int a2)]) C 3 dX5_runs_25 rfl (by decide) rfl ?_
    refine j_iload_n C 3 dX5_runs_26 rfl 0 rfl ?_
    refine j_if_eq C 32 dX5_runs_27 (by decide) (fun c3 => ?_) (fun c3 => ?_)
    · replace h := h.1 c3
      refine j_aload_n C 0 dX5_runs_32 rfl 1 rfl ?_
      refine j_getR C 19 0 2 rfl rfl rfl in_X5_runs_X5 (by decide) (by decide +kernel) dX5_runs_33 ?_
      refine j_aload_n C 0 dX5_runs_36 rfl 1 rfl ?_
      refine j_getR C 12 0 1 rfl rfl rfl in_X5_runs_X5 (by decide) (by decide +kernel) dX5_runs_37 ?_
      refine j_callVV (As := [.ref (eA E 12)]) (rest := []) C 19 (c_X0_copyFrom (rfl) (rfl) h) (cwV 1 C.2.2.2.2.2.1 gX5_runs_X0_copyFrom rfl rfl rfl hdX0_copyFrom ⟨Nat.le_of_ble_eq_true rfl, Nat.le_of_ble_eq_true rfl⟩) (shp_dyn (rfl)) rfl rfl rfl (Nat.le_of_ble_eq_true rfl) dX5_runs_40 (fun σ4 h => ?_)
      refine j_bipush (v := (-4 : Int32)) C dX5_runs_43 (by decide) ?_
      refine j_istore (lv' := [(4, .int (-4 : Int32)), (3, .int r2), (0, .ref (eA E 0)), (1, .int a1), (2, .int a2)]) C 4 dX5_runs_45 (by decide) rfl ?_
      refine j_iconst (v := (1 : Int32)) C dX5_runs_47 (by decide) ?_
      refine j_istore (lv' := [(5, .int (1 : Int32)), (4, .int (-4 : Int32)), (3, .int r2), (0, .ref (eA E 0)), (1, .int a1), (2, .int a2)]) C 5 dX5_runs_48 (by decide) rfl ?_
      exact j_sub (lv' := [(0, .ref (eA E 0)), (1, .int a1), (2, .int a2), (4, .int (-4 : Int32)), (5, .int (1 : Int32))]) [3, 4, 5, 1, 0] rfl h
    · replace h := h.2 c3
      refine j_iload_n C 3 dX5_runs_30 rfl 0 rfl ?_
      exact j_iret C dX5_runs_31 h) (by
    intro x4 x5 σ h
    refine j_iload C 5 dX5_runs_50 4 rfl ?_
    refine j_iload_n C 1 dX5_runs_52 rfl 1 rfl ?_
    refine j_icmp_gt C 91 dX5_runs_53 (by decide) (fun c5 => ?_) (fun c5 => ?_)
    · replace h := h.1 c5
      refine j_iload_n C 2 dX5_runs_91 rfl 2 rfl ?_
      by_cases c6 : a2 = (0 : Int32)
      · replace h := h.1 c6
        refine j_tabIn (off := 32) C 124 dX5_runs_92 (0 : Int32) c6 (by decide) (by decide) (by decide) (by decide) ?_
        refine j_aload_n C 0 dX5_runs_124 rfl 0 rfl ?_
        refine j_getR C 19 0 2 rfl rfl rfl in_X5_runs_X5 (by decide) (by decide +kernel) dX5_runs_125 ?_
        refine j_getI C 19 4 (shp_dyn (rfl)) rfl rfl in_X5_runs_X0 (by decide) (by decide +kernel) dX5_runs_128 ?_
        exact j_iret C dX5_runs_131 h
      by_cases c7 : a2 = (1 : Int32)
      · replace h := h.2.1 c7
        refine j_tabIn (off := 40) C 132 dX5_runs_92 (1 : Int32) c7 (by decide) (by decide) (by decide) (by decide) ?_
        refine j_aload_n C 0 dX5_runs_132 rfl 0 rfl ?_
        refine j_getR C 19 0 2 rfl rfl rfl in_X5_runs_X5 (by decide) (by decide +kernel) dX5_runs_133 ?_
        refine j_getI C 19 6 (shp_dyn (rfl)) rfl rfl in_X5_runs_X0 (by decide) (by decide +kernel) dX5_runs_136 ?_
        refine j_aload_n C 0 dX5_runs_139 rfl 0 rfl ?_
        refine j_getR C 12 0 1 rfl rfl rfl in_X5_runs_X5 (by decide) (by decide +kernel) dX5_runs_140 ?_
        refine j_getI C 12 6 (shp_dyn (rfl)) rfl rfl in_X5_runs_X0 (by decide) (by decide +kernel) dX5_runs_143 ?_
        refine j_isub C dX5_runs_146 ?_
        exact j_iret C dX5_runs_147 h
      by_cases c8 : a2 = (2 : Int32)
      · replace h := h.2.2.1 c8
        refine j_tabIn (off := 56) C 148 dX5_runs_92 (2 : Int32) c8 (by decide) (by decide) (by decide) (by decide) ?_
        refine j_aload_n C 0 dX5_runs_148 rfl 0 rfl ?_
        refine j_getR C 19 0 2 rfl rfl rfl in_X5_runs_X5 (by decide) (by decide +kernel) dX5_runs_149 ?_
        refine j_getI C 19 7 (shp_dyn (rfl)) rfl rfl in_X5_runs_X0 (by decide) (by decide +kernel) dX5_runs_152 ?_
        refine j_aload_n C 0 dX5_runs_155 rfl 0 rfl ?_
        refine j_getR C 12 0 1 rfl rfl rfl in_X5_runs_X5 (by decide) (by decide +kernel) dX5_runs_156 ?_
        refine j_getI C 12 7 (shp_dyn (rfl)) rfl rfl in_X5_runs_X0 (by decide) (by decide +kernel) dX5_runs_159 ?_
        refine j_isub C dX5_runs_162 ?_
        exact j_iret C dX5_runs_163 h
      by_cases c9 : a2 = (3 : Int32)
      · replace h := h.2.2.2.1 c9
        refine j_tabIn (off := 72) C 164 dX5_runs_92 (3 : Int32) c9 (by decide) (by decide) (by decide) (by decide) ?_
        refine j_iload C 4 dX5_runs_164 3 rfl ?_
        exact j_iret C dX5_runs_166 h
      replace h := h.2.2.2.2 c6 c7 c8 c9
      refine j_tabOut C 167 dX5_runs_92 (tab_out (lo := 0) (hi := 3) (fun v h1 h2 => by rcases (show v = 0 ∨ v = 1 ∨ v = 2 ∨ v = 3 by omega) with rfl | rfl | rfl | rfl <;> assumption)) (by decide) ?_
      refine j_aload_n C 0 dX5_runs_167 rfl 0 rfl ?_
      refine j_getR C 19 0 2 rfl rfl rfl in_X5_runs_X5 (by decide) (by decide +kernel) dX5_runs_168 ?_
      refine j_getI C 19 8 (shp_dyn (rfl)) rfl rfl in_X5_runs_X0 (by decide) (by decide +kernel) dX5_runs_171 ?_
      exact j_iret C dX5_runs_174 h
    · replace h := h.2 c5
      refine j_aload_n C 0 dX5_runs_56 rfl 0 rfl ?_
      refine j_getR C 19 0 2 rfl rfl rfl in_X5_runs_X5 (by decide) (by decide +kernel) dX5_runs_57 ?_
      refine j_iconst (v := (0 : Int32)) C dX5_runs_60 (by decide) ?_
      refine j_callVV (As := [.int (0 : Int32)]) (rest := []) C 19 (c_X0_crown (rfl) h) (cwV 1 C.2.2.2.2.2.1 gX5_runs_X0_crown rfl rfl rfl hdX0_crown ⟨Nat.le_of_ble_eq_true rfl, Nat.le_of_ble_eq_true rfl⟩) (shp_dyn (rfl)) rfl rfl rfl (Nat.le_of_ble_eq_true rfl) dX5_runs_61 (fun σ10 h => ?_)
      refine j_aload_n C 0 dX5_runs_64 rfl 0 rfl ?_
      refine j_getR C 19 0 2 rfl rfl rfl in_X5_runs_X5 (by decide) (by decide +kernel) dX5_runs_65 ?_
      refine j_getI C 19 10 (shp_dyn (rfl)) rfl rfl in_X5_runs_X0 (by decide) (by decide +kernel) dX5_runs_68 ?_
      refine j_if_ne C 85 dX5_runs_71 (by decide) (fun c11 => ?_) (fun c11 => ?_)
      · replace h := h.1 c11
        exact j_sub (lv' := [(0, .ref (eA E 0)), (1, .int a1), (2, .int a2), (4, .int x4), (5, .int x5)]) [0, 1, 2, 3, 4] rfl h
      · replace h := h.2 c11
        refine j_iload C 4 dX5_runs_74 3 rfl ?_
        refine j_bipush (v := (-4 : Int32)) C dX5_runs_76 (by decide) ?_
        refine j_icmp_ne C 85 dX5_runs_78 (by decide) (fun c12 => ?_) (fun c12 => ?_)
        · replace h := h.1 c12
          exact j_sub (lv' := [(0, .ref (eA E 0)), (1, .int a1), (2, .int a2), (4, .int x4), (5, .int x5)]) [0, 1, 2, 3, 4] rfl h
        · replace h := h.2 c12
          refine j_iload C 5 dX5_runs_81 4 rfl ?_
          refine j_istore (lv' := [(4, .int x5), (0, .ref (eA E 0)), (1, .int a1), (2, .int a2), (5, .int x5)]) C 4 dX5_runs_83 (by decide) rfl ?_
          exact j_sub (lv' := [(0, .ref (eA E 0)), (1, .int a1), (2, .int a2), (4, .int x5), (5, .int x5)]) [1, 2, 3, 0, 4] rfl h) (by
    intro x4 x5 σ h
    obtain ⟨v13, ev13⟩ : ∃ y : Int32, y = x5 + (1 : Int32) := ⟨_, rfl⟩
    replace h := h v13 ev13
    refine j_iinc (v := v13) (lv' := [(5, .int v13), (0, .ref (eA E 0)), (1, .int a1), (2, .int a2), (4, .int x4)]) C 5 dX5_runs_85 4 rfl (by rw [ev13]; rfl) (by decide) rfl ?_
    refine j_goto C 50 dX5_runs_88 (by decide) ?_
    exact j_sub (lv' := [(0, .ref (eA E 0)), (1, .int a1), (2, .int a2), (4, .int x4), (5, .int v13)]) [1, 2, 3, 4, 0] rfl h)
  refine j_aload_n C 0 dX5_runs_0 rfl 0 rfl ?_
  refine j_iload_n C 1 dX5_runs_1 rfl 1 rfl ?_
  refine j_callSI (As := [.int a1]) (rest := [.ref (eA E 0)]) C (c_X5_isAhead h) (va_cwS 1 C.2.2.2.2.2.1 gX5_runs_X5_isAhead rfl rfl rfl hdX5_isAhead.2 ⟨Nat.le_of_ble_eq_true rfl, Nat.le_of_ble_eq_true rfl⟩) rfl rfl (Nat.le_of_ble_eq_true rfl) dX5_runs_2 (fun r15 σ14 h => ?_)
  refine j_if_eq C 21 dX5_runs_5 (by decide) (fun c16 => ?_) (fun c16 => ?_)
  · replace h := h.1 c16
    exact j_sub (lv' := [(0, .ref (eA E 0)), (1, .int a1), (2, .int a2)]) [0, 1, 2] rfl h
  · replace h := h.2 c16
    refine j_iload_n C 2 dX5_runs_8 rfl 2 rfl ?_
    refine j_iconst (v := (0 : Int32)) C dX5_runs_9 (by decide) ?_
    refine j_iconst (v := (4 : Int32)) C dX5_runs_10 (by decide) ?_
    refine j_callSI (As := [.int a2, .int (0 : Int32), .int (4 : Int32)]) (rest := [.ref (eA E 0)]) C (c_X5_within h) (va_cwS 3 C.2.2.2.2.2.1 gX5_runs_X5_within rfl rfl rfl hdX5_within.2 ⟨Nat.le_of_ble_eq_true rfl, Nat.le_of_ble_eq_true rfl⟩) rfl rfl (Nat.le_of_ble_eq_true rfl) dX5_runs_11 (fun r18 σ17 h => ?_)
    refine j_if_eq C 21 dX5_runs_14 (by decide) (fun c19 => ?_) (fun c19 => ?_)
    · replace h := h.1 c19
      exact j_sub (lv' := [(0, .ref (eA E 0)), (1, .int a1), (2, .int a2)]) [0, 1, 2] rfl h
    · replace h := h.2 c19
      refine j_iconst (v := (1 : Int32)) C dX5_runs_17 (by decide) ?_
      refine j_goto C 22 dX5_runs_18 (by decide) ?_
      exact j_sub (lv' := [(0, .ref (eA E 0)), (1, .int a1), (2, .int a2)]) [0, 1, 2] rfl h
def wp_X5_ahead (a1 : Int32) (a2 : Int32) (a3 : Int32) (σ : Mem) (Q : Int32 → Mem → Prop) : Prop :=
  ∀ (P29 : Mem → Prop) (P30 : Int32 → Mem → Prop) (P60 : Int32 → Int32 → Mem → Prop) (P97 : Int32 → Int32 → Mem → Prop),
  (∀ (σ : Mem), (P30 (0 : Int32) σ) → P29 σ) →
  (∀ (s0 : Int32) (σ : Mem), (wp_X5_refusal s0 σ (fun r2 σ1 => (r2 = 0 → wp_X0_copyFrom 19 12 σ1 (fun σ4 => P60 (0 : Int32) (1 : Int32) σ4)) ∧ (¬ r2 = 0 → Q r2 σ1))) → P30 s0 σ) →
  (∀ (x5 : Int32) (x6 : Int32) (σ : Mem), ((a2 < x6 → (a3 = (0 : Int32) → vp_in a1 6 ∧ (Q (σ.1 (19 + 2 + 1 * ((1 : Int32)).toNatClampNeg) (a1).toNatClampNeg) σ)) ∧ (a3 = (1 : Int32) → wp_X0_placeOf 19 a1 σ (fun r10 σ9 => Q r10 σ9)) ∧ (¬ a3 = (0 : Int32) → ¬ a3 = (1 : Int32) → Q x5 σ)) ∧ (¬ a2 < x6 → wp_X0_crown 19 (0 : Int32) σ (fun σ11 => (¬ (σ11.1 19 8) = a1 → P97 x5 x6 σ11) ∧ ((σ11.1 19 8) = a1 → ∀ v13 : Int32, v13 = (x5 + (σ11.1 19 9)) → P97 v13 x6 σ11)))) → P60 x5 x6 σ) →
  (∀ (x5 : Int32) (x6 : Int32) (σ : Mem), (∀ v14 : Int32, v14 = x6 + (1 : Int32) → P60 x5 v14 σ) → P97 x5 x6 σ) →
  wp_X5_isHeir a1 σ (fun r16 σ15 => (r16 = 0 → P29 σ15) ∧ (¬ r16 = 0 → wp_X5_isAhead a2 σ15 (fun r19 σ18 => (r19 = 0 → P29 σ18) ∧ (¬ r19 = 0 → wp_X5_within a3 (0 : Int32) (2 : Int32) σ18 (fun r22 σ21 => (r22 = 0 → P29 σ21) ∧ (¬ r22 = 0 → P30 (1 : Int32) σ21))))))
theorem in_X5_ahead_X0 : ∀ w ∈ wsX00, w ∈ wsX5_ahead := fun _ h => List.mem_cons_of_mem _ (List.mem_append_right _ h)
theorem in_X5_ahead_X5 : ∀ w ∈ wsX50, w ∈ wsX5_ahead := fun _ h => List.mem_cons_of_mem _ (List.mem_append_left _ (List.mem_append_right _ h))
def rmX5_ahead : Room := { frames := 4, cells := 0, slots := 0, locals := 86 }
theorem hdX5_ahead : yX5_ahead.cls = RX5 ∧ yX5_ahead.cls ≠ "java/lang/invoke/MethodHandle" ∧ yX5_ahead.cls ≠ "java/lang/invoke/VarHandle" ∧ (parseMethodDescriptor yX5_ahead.desc).map (fun d => d.parameters.length) = some 3 := by decide +kernel
set_option maxHeartbeats 4000000 in
set_option maxRecDepth 100000 in
theorem c_X5_ahead {l : Launch} {E : EE} {a1 : Int32} {a2 : Int32} {a3 : Int32}  {σ : Mem} {Q : Int32 → Mem → Prop} (h : wp_X5_ahead a1 a2 a3 σ Q) : CtI l yX5_ahead wsX5_ahead rmX5_ahead E [.ref (eA E 0), .int a1, .int a2, .int a3] σ Q := by
  refine metI (cc := cX5_ahead) (nL := 7) (ret := (some .int)) (lv := [(0, .ref (eA E 0)), (1, .int a1), (2, .int a2), (3, .int a3)]) (by decide) rfl (Nat.le_of_ble_eq_true rfl) rfl ?_
  intro p e s m args below meth c C
  unfold wp_X5_ahead at h
  replace h := h (fun (σ : Mem) => J E p l e rmX5_ahead s m args below meth c (QI E below args s Q) 7 29 [(0, .ref (eA E 0)), (1, .int a1), (2, .int a2), (3, .int a3)] [.ref (eA E 0)] σ) (fun (s0 : Int32) (σ : Mem) => J E p l e rmX5_ahead s m args below meth c (QI E below args s Q) 7 30 [(0, .ref (eA E 0)), (1, .int a1), (2, .int a2), (3, .int a3)] [.int s0, .ref (eA E 0)] σ) (fun (x5 : Int32) (x6 : Int32) (σ : Mem) => J E p l e rmX5_ahead s m args below meth c (QI E below args s Q) 7 60 [(0, .ref (eA E 0)), (1, .int a1), (2, .int a2), (3, .int a3), (5, .int x5), (6, .int x6)] [] σ) (fun (x5 : Int32) (x6 : Int32) (σ : Mem) => J E p l e rmX5_ahead s m args below meth c (QI E below args s Q) 7 97 [(0, .ref (eA E 0)), (1, .int a1), (2, .int a2), (3, .int a3), (5, .int x5), (6, .int x6)] [] σ) (by
    intro σ h
    refine j_iconst (v := (0 : Int32)) C dX5_ahead_29 (by decide) ?_
    exact j_sub (lv' := [(0, .ref (eA E 0)), (1, .int a1), (2, .int a2), (3, .int a3)]) [0, 1, 2, 3] rfl h) (by
    intro s0 σ h
    refine j_callVI (As := [.int s0]) (rest := []) C 0 (c_X5_refusal h) (cwV 1 C.2.2.2.2.2.1 gX5_ahead_X5_refusal rfl rfl rfl hdX5_refusal ⟨Nat.le_of_ble_eq_true rfl, Nat.le_of_ble_eq_true rfl⟩) rfl rfl rfl rfl (Nat.le_of_ble_eq_true rfl) dX5_ahead_30 (fun r2 σ1 h => ?_)
    refine j_istore (lv' := [(4, .int r2), (0, .ref (eA E 0)), (1, .int a1), (2, .int a2), (3, .int a3)]) C 4 dX5_ahead_33 (by decide) rfl ?_
    refine j_iload C 4 dX5_ahead_35 0 rfl ?_
    refine j_if_eq C 43 dX5_ahead_37 (by decide) (fun c3 => ?_) (fun c3 => ?_)
    · replace h := h.1 c3
      refine j_aload_n C 0 dX5_ahead_43 rfl 1 rfl ?_
      refine j_getR C 19 0 2 rfl rfl rfl in_X5_ahead_X5 (by decide) (by decide +kernel) dX5_ahead_44 ?_
      refine j_aload_n C 0 dX5_ahead_47 rfl 1 rfl ?_
      refine j_getR C 12 0 1 rfl rfl rfl in_X5_ahead_X5 (by decide) (by decide +kernel) dX5_ahead_48 ?_
      refine j_callVV (As := [.ref (eA E 12)]) (rest := []) C 19 (c_X0_copyFrom (rfl) (rfl) h) (cwV 1 C.2.2.2.2.2.1 gX5_ahead_X0_copyFrom rfl rfl rfl hdX0_copyFrom ⟨Nat.le_of_ble_eq_true rfl, Nat.le_of_ble_eq_true rfl⟩) (shp_dyn (rfl)) rfl rfl rfl (Nat.le_of_ble_eq_true rfl) dX5_ahead_51 (fun σ4 h => ?_)
      refine j_iconst (v := (0 : Int32)) C dX5_ahead_54 (by decide) ?_
      refine j_istore (lv' := [(5, .int (0 : Int32)), (4, .int r2), (0, .ref (eA E 0)), (1, .int a1), (2, .int a2), (3, .int a3)]) C 5 dX5_ahead_55 (by decide) rfl ?_
      refine j_iconst (v := (1 : Int32)) C dX5_ahead_57 (by decide) ?_
      refine j_istore (lv' := [(6, .int (1 : Int32)), (5, .int (0 : Int32)), (4, .int r2), (0, .ref (eA E 0)), (1, .int a1), (2, .int a2), (3, .int a3)]) C 6 dX5_ahead_58 (by decide) rfl ?_
      exact j_sub (lv' := [(0, .ref (eA E 0)), (1, .int a1), (2, .int a2), (3, .int a3), (5, .int (0 : Int32)), (6, .int (1 : Int32))]) [3, 4, 5, 6, 1, 0] rfl h
    · replace h := h.2 c3
      refine j_iload C 4 dX5_ahead_40 0 rfl ?_
      exact j_iret C dX5_ahead_42 h) (by
    intro x5 x6 σ h
    refine j_iload C 6 dX5_ahead_60 5 rfl ?_
    refine j_iload_n C 2 dX5_ahead_62 rfl 2 rfl ?_
    refine j_icmp_gt C 103 dX5_ahead_63 (by decide) (fun c5 => ?_) (fun c5 => ?_)
    · replace h := h.1 c5
      refine j_iload_n C 3 dX5_ahead_103 rfl 3 rfl ?_
      by_cases c6 : a3 = (0 : Int32)
      · replace h := h.1 c6
        refine j_lookup (off := 28) C 132 dX5_ahead_104 (by decide) (by rw [c6]; rfl) (by decide) ?_
        refine j_aload_n C 0 dX5_ahead_132 rfl 0 rfl ?_
        refine j_getR C 19 0 2 rfl rfl rfl in_X5_ahead_X5 (by decide) (by decide +kernel) dX5_ahead_133 ?_
        refine j_getR C (19 + 1) 19 0 (shp_dyn (rfl)) rfl rfl in_X5_ahead_X0 (by decide) (by decide +kernel) dX5_ahead_136 ?_
        refine j_iconst (v := (1 : Int32)) C dX5_ahead_139 (by decide) ?_
        refine j_aald C (19 + 1) 5 (shp_dynT (rfl)) rfl rfl dX5_ahead_140 (in_lit rfl) ?_
        refine j_iload_n C 1 dX5_ahead_141 rfl 1 rfl ?_
        refine j_iald C (19 + 2 + 1 * ((1 : Int32)).toNatClampNeg) (shp_dynR (rfl) (in_lit rfl)) dX5_ahead_142 h.1 ?_
        replace h := h.2
        exact j_iret C dX5_ahead_143 h
      by_cases c8 : a3 = (1 : Int32)
      · replace h := h.2.1 c8
        refine j_lookup (off := 40) C 144 dX5_ahead_104 (by decide) (by rw [c8]; rfl) (by decide) ?_
        refine j_aload_n C 0 dX5_ahead_144 rfl 0 rfl ?_
        refine j_getR C 19 0 2 rfl rfl rfl in_X5_ahead_X5 (by decide) (by decide +kernel) dX5_ahead_145 ?_
        refine j_iload_n C 1 dX5_ahead_148 rfl 1 rfl ?_
        refine j_callVI (As := [.int a1]) (rest := []) C 19 (c_X0_placeOf (rfl) h) (cwV 1 C.2.2.2.2.2.1 gX5_ahead_X0_placeOf rfl rfl rfl hdX0_placeOf ⟨Nat.le_of_ble_eq_true rfl, Nat.le_of_ble_eq_true rfl⟩) (shp_dyn (rfl)) rfl rfl rfl (Nat.le_of_ble_eq_true rfl) dX5_ahead_149 (fun r10 σ9 h => ?_)
        exact j_iret C dX5_ahead_152 h
      replace h := h.2.2 c6 c8
      refine j_lookup (off := 49) C 153 dX5_ahead_104 (by decide) (lk_out2 c6 c8) (by decide) ?_
      refine j_iload C 5 dX5_ahead_153 4 rfl ?_
      exact j_iret C dX5_ahead_155 h
    · replace h := h.2 c5
      refine j_aload_n C 0 dX5_ahead_66 rfl 0 rfl ?_
      refine j_getR C 19 0 2 rfl rfl rfl in_X5_ahead_X5 (by decide) (by decide +kernel) dX5_ahead_67 ?_
      refine j_iconst (v := (0 : Int32)) C dX5_ahead_70 (by decide) ?_
      refine j_callVV (As := [.int (0 : Int32)]) (rest := []) C 19 (c_X0_crown (rfl) h) (cwV 1 C.2.2.2.2.2.1 gX5_ahead_X0_crown rfl rfl rfl hdX0_crown ⟨Nat.le_of_ble_eq_true rfl, Nat.le_of_ble_eq_true rfl⟩) (shp_dyn (rfl)) rfl rfl rfl (Nat.le_of_ble_eq_true rfl) dX5_ahead_71 (fun σ11 h => ?_)
      refine j_aload_n C 0 dX5_ahead_74 rfl 0 rfl ?_
      refine j_getR C 19 0 2 rfl rfl rfl in_X5_ahead_X5 (by decide) (by decide +kernel) dX5_ahead_75 ?_
      refine j_getI C 19 8 (shp_dyn (rfl)) rfl rfl in_X5_ahead_X0 (by decide) (by decide +kernel) dX5_ahead_78 ?_
      refine j_iload_n C 1 dX5_ahead_81 rfl 1 rfl ?_
      refine j_icmp_ne C 97 dX5_ahead_82 (by decide) (fun c12 => ?_) (fun c12 => ?_)
      · replace h := h.1 c12
        exact j_sub (lv' := [(0, .ref (eA E 0)), (1, .int a1), (2, .int a2), (3, .int a3), (5, .int x5), (6, .int x6)]) [0, 1, 2, 3, 4, 5] rfl h
      · replace h := h.2 c12
        refine j_iload C 5 dX5_ahead_85 4 rfl ?_
        refine j_aload_n C 0 dX5_ahead_87 rfl 0 rfl ?_
        refine j_getR C 19 0 2 rfl rfl rfl in_X5_ahead_X5 (by decide) (by decide +kernel) dX5_ahead_88 ?_
        refine j_getI C 19 9 (shp_dyn (rfl)) rfl rfl in_X5_ahead_X0 (by decide) (by decide +kernel) dX5_ahead_91 ?_
        refine j_iadd C dX5_ahead_94 ?_
        refine j_topi (fun v13 ev13 => ?_)
        replace h := h v13 ev13
        refine j_istore (lv' := [(5, .int v13), (0, .ref (eA E 0)), (1, .int a1), (2, .int a2), (3, .int a3), (6, .int x6)]) C 5 dX5_ahead_95 (by decide) rfl ?_
        exact j_sub (lv' := [(0, .ref (eA E 0)), (1, .int a1), (2, .int a2), (3, .int a3), (5, .int v13), (6, .int x6)]) [1, 2, 3, 4, 0, 5] rfl h) (by
    intro x5 x6 σ h
    obtain ⟨v14, ev14⟩ : ∃ y : Int32, y = x6 + (1 : Int32) := ⟨_, rfl⟩
    replace h := h v14 ev14
    refine j_iinc (v := v14) (lv' := [(6, .int v14), (0, .ref (eA E 0)), (1, .int a1), (2, .int a2), (3, .int a3), (5, .int x5)]) C 6 dX5_ahead_97 5 rfl (by rw [ev14]; rfl) (by decide) rfl ?_
    refine j_goto C 60 dX5_ahead_100 (by decide) ?_
    exact j_sub (lv' := [(0, .ref (eA E 0)), (1, .int a1), (2, .int a2), (3, .int a3), (5, .int x5), (6, .int v14)]) [1, 2, 3, 4, 5, 0] rfl h)
  refine j_aload_n C 0 dX5_ahead_0 rfl 0 rfl ?_
  refine j_aload_n C 0 dX5_ahead_1 rfl 0 rfl ?_
  refine j_iload_n C 1 dX5_ahead_2 rfl 1 rfl ?_
  refine j_callVI (As := [.int a1]) (rest := [.ref (eA E 0)]) C 0 (c_X5_isHeir h) (cwV 1 C.2.2.2.2.2.1 gX5_ahead_X5_isHeir rfl rfl rfl hdX5_isHeir ⟨Nat.le_of_ble_eq_true rfl, Nat.le_of_ble_eq_true rfl⟩) rfl rfl rfl rfl (Nat.le_of_ble_eq_true rfl) dX5_ahead_3 (fun r16 σ15 h => ?_)
  refine j_if_eq C 29 dX5_ahead_6 (by decide) (fun c17 => ?_) (fun c17 => ?_)
  · replace h := h.1 c17
    exact j_sub (lv' := [(0, .ref (eA E 0)), (1, .int a1), (2, .int a2), (3, .int a3)]) [0, 1, 2, 3] rfl h
  · replace h := h.2 c17
    refine j_iload_n C 2 dX5_ahead_9 rfl 2 rfl ?_
    refine j_callSI (As := [.int a2]) (rest := [.ref (eA E 0)]) C (c_X5_isAhead h) (va_cwS 1 C.2.2.2.2.2.1 gX5_ahead_X5_isAhead rfl rfl rfl hdX5_isAhead.2 ⟨Nat.le_of_ble_eq_true rfl, Nat.le_of_ble_eq_true rfl⟩) rfl rfl (Nat.le_of_ble_eq_true rfl) dX5_ahead_10 (fun r19 σ18 h => ?_)
    refine j_if_eq C 29 dX5_ahead_13 (by decide) (fun c20 => ?_) (fun c20 => ?_)
    · replace h := h.1 c20
      exact j_sub (lv' := [(0, .ref (eA E 0)), (1, .int a1), (2, .int a2), (3, .int a3)]) [0, 1, 2, 3] rfl h
    · replace h := h.2 c20
      refine j_iload_n C 3 dX5_ahead_16 rfl 3 rfl ?_
      refine j_iconst (v := (0 : Int32)) C dX5_ahead_17 (by decide) ?_
      refine j_iconst (v := (2 : Int32)) C dX5_ahead_18 (by decide) ?_
      refine j_callSI (As := [.int a3, .int (0 : Int32), .int (2 : Int32)]) (rest := [.ref (eA E 0)]) C (c_X5_within h) (va_cwS 3 C.2.2.2.2.2.1 gX5_ahead_X5_within rfl rfl rfl hdX5_within.2 ⟨Nat.le_of_ble_eq_true rfl, Nat.le_of_ble_eq_true rfl⟩) rfl rfl (Nat.le_of_ble_eq_true rfl) dX5_ahead_19 (fun r22 σ21 h => ?_)
      refine j_if_eq C 29 dX5_ahead_22 (by decide) (fun c23 => ?_) (fun c23 => ?_)
      · replace h := h.1 c23
        exact j_sub (lv' := [(0, .ref (eA E 0)), (1, .int a1), (2, .int a2), (3, .int a3)]) [0, 1, 2, 3] rfl h
      · replace h := h.2 c23
        refine j_iconst (v := (1 : Int32)) C dX5_ahead_25 (by decide) ?_
        refine j_goto C 30 dX5_ahead_26 (by decide) ?_
        exact j_sub (lv' := [(0, .ref (eA E 0)), (1, .int a1), (2, .int a2), (3, .int a3)]) [0, 1, 2, 3] rfl h
def wp_X5_firstReignOf (a1 : Int32) (σ : Mem) (Q : Int32 → Mem → Prop) : Prop :=
  ∀ (P13 : Int32 → Mem → Prop),
  (∀ (x2 : Int32) (σ : Mem), (((60 : Int32) < x2 → Q (-4 : Int32) σ) ∧ (¬ (60 : Int32) < x2 → wp_X0_crown 19 (0 : Int32) σ (fun σ2 => (¬ (σ2.1 19 8) = a1 → ∀ v4 : Int32, v4 = x2 + (1 : Int32) → P13 v4 σ2) ∧ ((σ2.1 19 8) = a1 → Q x2 σ2)))) → P13 x2 σ) →
  wp_X0_copyFrom 19 12 σ (fun σ5 => P13 (1 : Int32) σ5)
theorem in_X5_firstReignOf_X0 : ∀ w ∈ wsX00, w ∈ wsX5_firstReignOf := fun _ h => List.mem_cons_of_mem _ (List.mem_append_right _ h)
theorem in_X5_firstReignOf_X5 : ∀ w ∈ wsX50, w ∈ wsX5_firstReignOf := fun _ h => List.mem_cons_of_mem _ (List.mem_append_left _ (List.mem_append_right _ h))
def rmX5_firstReignOf : Room := { frames := 4, cells := 0, slots := 0, locals := 86 }
theorem hdX5_firstReignOf : yX5_firstReignOf.cls = RX5 ∧ yX5_firstReignOf.cls ≠ "java/lang/invoke/MethodHandle" ∧ yX5_firstReignOf.cls ≠ "java/lang/invoke/VarHandle" ∧ (parseMethodDescriptor yX5_firstReignOf.desc).map (fun d => d.parameters.length) = some 1 := by decide +kernel
set_option maxHeartbeats 4000000 in
set_option maxRecDepth 100000 in
theorem c_X5_firstReignOf {l : Launch} {E : EE} {a1 : Int32}  {σ : Mem} {Q : Int32 → Mem → Prop} (h : wp_X5_firstReignOf a1 σ Q) : CtI l yX5_firstReignOf wsX5_firstReignOf rmX5_firstReignOf E [.ref (eA E 0), .int a1] σ Q := by
  refine metI (cc := cX5_firstReignOf) (nL := 3) (ret := (some .int)) (lv := [(0, .ref (eA E 0)), (1, .int a1)]) (by decide) rfl (Nat.le_of_ble_eq_true rfl) rfl ?_
  intro p e s m args below meth c C
  unfold wp_X5_firstReignOf at h
  replace h := h (fun (x2 : Int32) (σ : Mem) => J E p l e rmX5_firstReignOf s m args below meth c (QI E below args s Q) 3 13 [(0, .ref (eA E 0)), (1, .int a1), (2, .int x2)] [] σ) (by
    intro x2 σ h
    refine j_iload_n C 2 dX5_firstReignOf_13 rfl 2 rfl ?_
    refine j_bipush (v := (60 : Int32)) C dX5_firstReignOf_14 (by decide) ?_
    refine j_icmp_gt C 46 dX5_firstReignOf_16 (by decide) (fun c1 => ?_) (fun c1 => ?_)
    · replace h := h.1 c1
      refine j_bipush (v := (-4 : Int32)) C dX5_firstReignOf_46 (by decide) ?_
      exact j_iret C dX5_firstReignOf_48 h
    · replace h := h.2 c1
      refine j_aload_n C 0 dX5_firstReignOf_19 rfl 0 rfl ?_
      refine j_getR C 19 0 2 rfl rfl rfl in_X5_firstReignOf_X5 (by decide) (by decide +kernel) dX5_firstReignOf_20 ?_
      refine j_iconst (v := (0 : Int32)) C dX5_firstReignOf_23 (by decide) ?_
      refine j_callVV (As := [.int (0 : Int32)]) (rest := []) C 19 (c_X0_crown (rfl) h) (cwV 1 C.2.2.2.2.2.1 gX5_firstReignOf_X0_crown rfl rfl rfl hdX0_crown ⟨Nat.le_of_ble_eq_true rfl, Nat.le_of_ble_eq_true rfl⟩) (shp_dyn (rfl)) rfl rfl rfl (Nat.le_of_ble_eq_true rfl) dX5_firstReignOf_24 (fun σ2 h => ?_)
      refine j_aload_n C 0 dX5_firstReignOf_27 rfl 0 rfl ?_
      refine j_getR C 19 0 2 rfl rfl rfl in_X5_firstReignOf_X5 (by decide) (by decide +kernel) dX5_firstReignOf_28 ?_
      refine j_getI C 19 8 (shp_dyn (rfl)) rfl rfl in_X5_firstReignOf_X0 (by decide) (by decide +kernel) dX5_firstReignOf_31 ?_
      refine j_iload_n C 1 dX5_firstReignOf_34 rfl 1 rfl ?_
      refine j_icmp_ne C 40 dX5_firstReignOf_35 (by decide) (fun c3 => ?_) (fun c3 => ?_)
      · replace h := h.1 c3
        obtain ⟨v4, ev4⟩ : ∃ y : Int32, y = x2 + (1 : Int32) := ⟨_, rfl⟩
        replace h := h v4 ev4
        refine j_iinc (v := v4) (lv' := [(2, .int v4), (0, .ref (eA E 0)), (1, .int a1)]) C 2 dX5_firstReignOf_40 2 rfl (by rw [ev4]; rfl) (by decide) rfl ?_
        refine j_goto C 13 dX5_firstReignOf_43 (by decide) ?_
        exact j_sub (lv' := [(0, .ref (eA E 0)), (1, .int a1), (2, .int v4)]) [1, 2, 0] rfl h
      · replace h := h.2 c3
        refine j_iload_n C 2 dX5_firstReignOf_38 rfl 2 rfl ?_
        exact j_iret C dX5_firstReignOf_39 h)
  refine j_aload_n C 0 dX5_firstReignOf_0 rfl 0 rfl ?_
  refine j_getR C 19 0 2 rfl rfl rfl in_X5_firstReignOf_X5 (by decide) (by decide +kernel) dX5_firstReignOf_1 ?_
  refine j_aload_n C 0 dX5_firstReignOf_4 rfl 0 rfl ?_
  refine j_getR C 12 0 1 rfl rfl rfl in_X5_firstReignOf_X5 (by decide) (by decide +kernel) dX5_firstReignOf_5 ?_
  refine j_callVV (As := [.ref (eA E 12)]) (rest := []) C 19 (c_X0_copyFrom (rfl) (rfl) h) (cwV 1 C.2.2.2.2.2.1 gX5_firstReignOf_X0_copyFrom rfl rfl rfl hdX0_copyFrom ⟨Nat.le_of_ble_eq_true rfl, Nat.le_of_ble_eq_true rfl⟩) (shp_dyn (rfl)) rfl rfl rfl (Nat.le_of_ble_eq_true rfl) dX5_firstReignOf_8 (fun σ5 h => ?_)
  refine j_iconst (v := (1 : Int32)) C dX5_firstReignOf_11 (by decide) ?_
  refine j_istore_n (lv' := [(2, .int (1 : Int32)), (0, .ref (eA E 0)), (1, .int a1)]) C 2 dX5_firstReignOf_12 rfl (by decide) rfl ?_
  exact j_sub (lv' := [(0, .ref (eA E 0)), (1, .int a1), (2, .int (1 : Int32))]) [1, 2, 0] rfl h
def wp_X5_soonest (a1 : Int32) (σ : Mem) (Q : Int32 → Mem → Prop) : Prop :=
  wp_X5_isHeir a1 σ (fun r2 σ1 => wp_X5_refusal r2 σ1 (fun r4 σ3 => (r4 = 0 → wp_X5_firstReignOf a1 σ3 (fun r7 σ6 => Q r7 σ6)) ∧ (¬ r4 = 0 → Q r4 σ3)))
def rmX5_soonest : Room := { frames := 5, cells := 0, slots := 0, locals := 108 }
theorem hdX5_soonest : yX5_soonest.cls = RX5 ∧ yX5_soonest.cls ≠ "java/lang/invoke/MethodHandle" ∧ yX5_soonest.cls ≠ "java/lang/invoke/VarHandle" ∧ (parseMethodDescriptor yX5_soonest.desc).map (fun d => d.parameters.length) = some 1 := by decide +kernel
set_option maxHeartbeats 4000000 in
set_option maxRecDepth 100000 in
theorem c_X5_soonest {l : Launch} {E : EE} {a1 : Int32}  {σ : Mem} {Q : Int32 → Mem → Prop} (h : wp_X5_soonest a1 σ Q) : CtI l yX5_soonest wsX5_soonest rmX5_soonest E [.ref (eA E 0), .int a1] σ Q := by
  refine metI (cc := cX5_soonest) (nL := 3) (ret := (some .int)) (lv := [(0, .ref (eA E 0)), (1, .int a1)]) (by decide) rfl (Nat.le_of_ble_eq_true rfl) rfl ?_
  intro p e s m args below meth c C
  unfold wp_X5_soonest at h
  refine j_aload_n C 0 dX5_soonest_0 rfl 0 rfl ?_
  refine j_aload_n C 0 dX5_soonest_1 rfl 0 rfl ?_
  refine j_iload_n C 1 dX5_soonest_2 rfl 1 rfl ?_
  refine j_callVI (As := [.int a1]) (rest := [.ref (eA E 0)]) C 0 (c_X5_isHeir h) (cwV 1 C.2.2.2.2.2.1 gX5_soonest_X5_isHeir rfl rfl rfl hdX5_isHeir ⟨Nat.le_of_ble_eq_true rfl, Nat.le_of_ble_eq_true rfl⟩) rfl rfl rfl rfl (Nat.le_of_ble_eq_true rfl) dX5_soonest_3 (fun r2 σ1 h => ?_)
  refine j_callVI (As := [.int r2]) (rest := []) C 0 (c_X5_refusal h) (cwV 1 C.2.2.2.2.2.1 gX5_soonest_X5_refusal rfl rfl rfl hdX5_refusal ⟨Nat.le_of_ble_eq_true rfl, Nat.le_of_ble_eq_true rfl⟩) rfl rfl rfl rfl (Nat.le_of_ble_eq_true rfl) dX5_soonest_6 (fun r4 σ3 h => ?_)
  refine j_istore_n (lv' := [(2, .int r4), (0, .ref (eA E 0)), (1, .int a1)]) C 2 dX5_soonest_9 rfl (by decide) rfl ?_
  refine j_iload_n C 2 dX5_soonest_10 rfl 0 rfl ?_
  refine j_if_eq C 18 dX5_soonest_11 (by decide) (fun c5 => ?_) (fun c5 => ?_)
  · replace h := h.1 c5
    refine j_aload_n C 0 dX5_soonest_18 rfl 1 rfl ?_
    refine j_iload_n C 1 dX5_soonest_19 rfl 2 rfl ?_
    refine j_callVI (As := [.int a1]) (rest := []) C 0 (c_X5_firstReignOf h) (cwV 1 C.2.2.2.2.2.1 gX5_soonest_X5_firstReignOf rfl rfl rfl hdX5_firstReignOf ⟨Nat.le_of_ble_eq_true rfl, Nat.le_of_ble_eq_true rfl⟩) rfl rfl rfl rfl (Nat.le_of_ble_eq_true rfl) dX5_soonest_20 (fun r7 σ6 h => ?_)
    exact j_iret C dX5_soonest_23 h
  · replace h := h.2 c5
    refine j_iload_n C 2 dX5_soonest_14 rfl 0 rfl ?_
    refine j_goto C 23 dX5_soonest_15 (by decide) ?_
    exact j_iret C dX5_soonest_23 h
def wp_X5_again (σ : Mem) (Q : Int32 → Mem → Prop) : Prop :=
  ∀ (P25 : Int32 → Mem → Prop),
  (∀ (x2 : Int32) (σ : Mem), (((60 : Int32) < x2 → Q (-4 : Int32) σ) ∧ (¬ (60 : Int32) < x2 → wp_X0_crown 19 (0 : Int32) σ (fun σ2 => wp_X0_standsAs 19 12 σ2 (fun r4 σ3 => (r4 = 0 → ∀ v6 : Int32, v6 = x2 + (1 : Int32) → P25 v6 σ3) ∧ (¬ r4 = 0 → Q x2 σ3))))) → P25 x2 σ) →
  wp_X5_refusal (1 : Int32) σ (fun r8 σ7 => (r8 = 0 → wp_X0_copyFrom 19 12 σ7 (fun σ10 => P25 (1 : Int32) σ10)) ∧ (¬ r8 = 0 → Q r8 σ7))
theorem in_X5_again_X5 : ∀ w ∈ wsX50, w ∈ wsX5_again := fun _ h => List.mem_cons_of_mem _ (List.mem_append_left _ (List.mem_append_right _ h))
def rmX5_again : Room := { frames := 4, cells := 0, slots := 0, locals := 86 }
theorem hdX5_again : yX5_again.cls = RX5 ∧ yX5_again.cls ≠ "java/lang/invoke/MethodHandle" ∧ yX5_again.cls ≠ "java/lang/invoke/VarHandle" ∧ (parseMethodDescriptor yX5_again.desc).map (fun d => d.parameters.length) = some 0 := by decide +kernel
set_option maxHeartbeats 4000000 in
set_option maxRecDepth 100000 in
theorem c_X5_again {l : Launch} {E : EE}   {σ : Mem} {Q : Int32 → Mem → Prop} (h : wp_X5_again  σ Q) : CtI l yX5_again wsX5_again rmX5_again E [.ref (eA E 0)] σ Q := by
  refine metI (cc := cX5_again) (nL := 3) (ret := (some .int)) (lv := [(0, .ref (eA E 0))]) (by decide) rfl (Nat.le_of_ble_eq_true rfl) rfl ?_
  intro p e s m args below meth c C
  unfold wp_X5_again at h
  replace h := h (fun (x2 : Int32) (σ : Mem) => J E p l e rmX5_again s m args below meth c (QI E below args s Q) 3 25 [(0, .ref (eA E 0)), (2, .int x2)] [] σ) (by
    intro x2 σ h
    refine j_iload_n C 2 dX5_again_25 rfl 1 rfl ?_
    refine j_bipush (v := (60 : Int32)) C dX5_again_26 (by decide) ?_
    refine j_icmp_gt C 61 dX5_again_28 (by decide) (fun c1 => ?_) (fun c1 => ?_)
    · replace h := h.1 c1
      refine j_bipush (v := (-4 : Int32)) C dX5_again_61 (by decide) ?_
      exact j_iret C dX5_again_63 h
    · replace h := h.2 c1
      refine j_aload_n C 0 dX5_again_31 rfl 0 rfl ?_
      refine j_getR C 19 0 2 rfl rfl rfl in_X5_again_X5 (by decide) (by decide +kernel) dX5_again_32 ?_
      refine j_iconst (v := (0 : Int32)) C dX5_again_35 (by decide) ?_
      refine j_callVV (As := [.int (0 : Int32)]) (rest := []) C 19 (c_X0_crown (rfl) h) (cwV 1 C.2.2.2.2.2.1 gX5_again_X0_crown rfl rfl rfl hdX0_crown ⟨Nat.le_of_ble_eq_true rfl, Nat.le_of_ble_eq_true rfl⟩) (shp_dyn (rfl)) rfl rfl rfl (Nat.le_of_ble_eq_true rfl) dX5_again_36 (fun σ2 h => ?_)
      refine j_aload_n C 0 dX5_again_39 rfl 0 rfl ?_
      refine j_getR C 19 0 2 rfl rfl rfl in_X5_again_X5 (by decide) (by decide +kernel) dX5_again_40 ?_
      refine j_aload_n C 0 dX5_again_43 rfl 0 rfl ?_
      refine j_getR C 12 0 1 rfl rfl rfl in_X5_again_X5 (by decide) (by decide +kernel) dX5_again_44 ?_
      refine j_callVI (As := [.ref (eA E 12)]) (rest := []) C 19 (c_X0_standsAs (rfl) (rfl) h) (cwV 1 C.2.2.2.2.2.1 gX5_again_X0_standsAs rfl rfl rfl hdX0_standsAs ⟨Nat.le_of_ble_eq_true rfl, Nat.le_of_ble_eq_true rfl⟩) (shp_dyn (rfl)) rfl rfl rfl (Nat.le_of_ble_eq_true rfl) dX5_again_47 (fun r4 σ3 h => ?_)
      refine j_if_eq C 55 dX5_again_50 (by decide) (fun c5 => ?_) (fun c5 => ?_)
      · replace h := h.1 c5
        obtain ⟨v6, ev6⟩ : ∃ y : Int32, y = x2 + (1 : Int32) := ⟨_, rfl⟩
        replace h := h v6 ev6
        refine j_iinc (v := v6) (lv' := [(2, .int v6), (0, .ref (eA E 0))]) C 2 dX5_again_55 1 rfl (by rw [ev6]; rfl) (by decide) rfl ?_
        refine j_goto C 25 dX5_again_58 (by decide) ?_
        exact j_sub (lv' := [(0, .ref (eA E 0)), (2, .int v6)]) [1, 0] rfl h
      · replace h := h.2 c5
        refine j_iload_n C 2 dX5_again_53 rfl 1 rfl ?_
        exact j_iret C dX5_again_54 h)
  refine j_aload_n C 0 dX5_again_0 rfl 0 rfl ?_
  refine j_iconst (v := (1 : Int32)) C dX5_again_1 (by decide) ?_
  refine j_callVI (As := [.int (1 : Int32)]) (rest := []) C 0 (c_X5_refusal h) (cwV 1 C.2.2.2.2.2.1 gX5_again_X5_refusal rfl rfl rfl hdX5_refusal ⟨Nat.le_of_ble_eq_true rfl, Nat.le_of_ble_eq_true rfl⟩) rfl rfl rfl rfl (Nat.le_of_ble_eq_true rfl) dX5_again_2 (fun r8 σ7 h => ?_)
  refine j_istore_n (lv' := [(1, .int r8), (0, .ref (eA E 0))]) C 1 dX5_again_5 rfl (by decide) rfl ?_
  refine j_iload_n C 1 dX5_again_6 rfl 0 rfl ?_
  refine j_if_eq C 12 dX5_again_7 (by decide) (fun c9 => ?_) (fun c9 => ?_)
  · replace h := h.1 c9
    refine j_aload_n C 0 dX5_again_12 rfl 1 rfl ?_
    refine j_getR C 19 0 2 rfl rfl rfl in_X5_again_X5 (by decide) (by decide +kernel) dX5_again_13 ?_
    refine j_aload_n C 0 dX5_again_16 rfl 1 rfl ?_
    refine j_getR C 12 0 1 rfl rfl rfl in_X5_again_X5 (by decide) (by decide +kernel) dX5_again_17 ?_
    refine j_callVV (As := [.ref (eA E 12)]) (rest := []) C 19 (c_X0_copyFrom (rfl) (rfl) h) (cwV 1 C.2.2.2.2.2.1 gX5_again_X0_copyFrom rfl rfl rfl hdX0_copyFrom ⟨Nat.le_of_ble_eq_true rfl, Nat.le_of_ble_eq_true rfl⟩) (shp_dyn (rfl)) rfl rfl rfl (Nat.le_of_ble_eq_true rfl) dX5_again_20 (fun σ10 h => ?_)
    refine j_iconst (v := (1 : Int32)) C dX5_again_23 (by decide) ?_
    refine j_istore_n (lv' := [(2, .int (1 : Int32)), (1, .int r8), (0, .ref (eA E 0))]) C 2 dX5_again_24 rfl (by decide) rfl ?_
    exact j_sub (lv' := [(0, .ref (eA E 0)), (2, .int (1 : Int32))]) [2, 0] rfl h
  · replace h := h.2 c9
    refine j_iload_n C 1 dX5_again_10 rfl 0 rfl ?_
    exact j_iret C dX5_again_11 h
def wp_X5_ruins (σ : Mem) (Q : Int32 → Mem → Prop) : Prop :=
  ∀ (P25 : Int32 → Mem → Prop),
  (∀ (x2 : Int32) (σ : Mem), (((60 : Int32) < x2 → Q (-4 : Int32) σ) ∧ (¬ (60 : Int32) < x2 → (¬ (σ.1 19 4) = 0 → wp_X0_crown 19 (0 : Int32) σ (fun σ3 => ∀ v4 : Int32, v4 = x2 + (1 : Int32) → P25 v4 σ3)) ∧ ((σ.1 19 4) = 0 → Q x2 σ))) → P25 x2 σ) →
  wp_X5_refusal (1 : Int32) σ (fun r6 σ5 => (r6 = 0 → wp_X0_copyFrom 19 12 σ5 (fun σ8 => P25 (0 : Int32) σ8)) ∧ (¬ r6 = 0 → Q r6 σ5))
theorem in_X5_ruins_X0 : ∀ w ∈ wsX00, w ∈ wsX5_ruins := fun _ h => List.mem_cons_of_mem _ (List.mem_append_right _ h)
theorem in_X5_ruins_X5 : ∀ w ∈ wsX50, w ∈ wsX5_ruins := fun _ h => List.mem_cons_of_mem _ (List.mem_append_left _ (List.mem_append_right _ h))
def rmX5_ruins : Room := { frames := 4, cells := 0, slots := 0, locals := 86 }
theorem hdX5_ruins : yX5_ruins.cls = RX5 ∧ yX5_ruins.cls ≠ "java/lang/invoke/MethodHandle" ∧ yX5_ruins.cls ≠ "java/lang/invoke/VarHandle" ∧ (parseMethodDescriptor yX5_ruins.desc).map (fun d => d.parameters.length) = some 0 := by decide +kernel
set_option maxHeartbeats 4000000 in
set_option maxRecDepth 100000 in
theorem c_X5_ruins {l : Launch} {E : EE}   {σ : Mem} {Q : Int32 → Mem → Prop} (h : wp_X5_ruins  σ Q) : CtI l yX5_ruins wsX5_ruins rmX5_ruins E [.ref (eA E 0)] σ Q := by
  refine metI (cc := cX5_ruins) (nL := 3) (ret := (some .int)) (lv := [(0, .ref (eA E 0))]) (by decide) rfl (Nat.le_of_ble_eq_true rfl) rfl ?_
  intro p e s m args below meth c C
  unfold wp_X5_ruins at h
  replace h := h (fun (x2 : Int32) (σ : Mem) => J E p l e rmX5_ruins s m args below meth c (QI E below args s Q) 3 25 [(0, .ref (eA E 0)), (2, .int x2)] [] σ) (by
    intro x2 σ h
    refine j_iload_n C 2 dX5_ruins_25 rfl 1 rfl ?_
    refine j_bipush (v := (60 : Int32)) C dX5_ruins_26 (by decide) ?_
    refine j_icmp_gt C 57 dX5_ruins_28 (by decide) (fun c1 => ?_) (fun c1 => ?_)
    · replace h := h.1 c1
      refine j_bipush (v := (-4 : Int32)) C dX5_ruins_57 (by decide) ?_
      exact j_iret C dX5_ruins_59 h
    · replace h := h.2 c1
      refine j_aload_n C 0 dX5_ruins_31 rfl 0 rfl ?_
      refine j_getR C 19 0 2 rfl rfl rfl in_X5_ruins_X5 (by decide) (by decide +kernel) dX5_ruins_32 ?_
      refine j_getI C 19 4 (shp_dyn (rfl)) rfl rfl in_X5_ruins_X0 (by decide) (by decide +kernel) dX5_ruins_35 ?_
      refine j_if_ne C 43 dX5_ruins_38 (by decide) (fun c2 => ?_) (fun c2 => ?_)
      · replace h := h.1 c2
        refine j_aload_n C 0 dX5_ruins_43 rfl 0 rfl ?_
        refine j_getR C 19 0 2 rfl rfl rfl in_X5_ruins_X5 (by decide) (by decide +kernel) dX5_ruins_44 ?_
        refine j_iconst (v := (0 : Int32)) C dX5_ruins_47 (by decide) ?_
        refine j_callVV (As := [.int (0 : Int32)]) (rest := []) C 19 (c_X0_crown (rfl) h) (cwV 1 C.2.2.2.2.2.1 gX5_ruins_X0_crown rfl rfl rfl hdX0_crown ⟨Nat.le_of_ble_eq_true rfl, Nat.le_of_ble_eq_true rfl⟩) (shp_dyn (rfl)) rfl rfl rfl (Nat.le_of_ble_eq_true rfl) dX5_ruins_48 (fun σ3 h => ?_)
        obtain ⟨v4, ev4⟩ : ∃ y : Int32, y = x2 + (1 : Int32) := ⟨_, rfl⟩
        replace h := h v4 ev4
        refine j_iinc (v := v4) (lv' := [(2, .int v4), (0, .ref (eA E 0))]) C 2 dX5_ruins_51 1 rfl (by rw [ev4]; rfl) (by decide) rfl ?_
        refine j_goto C 25 dX5_ruins_54 (by decide) ?_
        exact j_sub (lv' := [(0, .ref (eA E 0)), (2, .int v4)]) [1, 0] rfl h
      · replace h := h.2 c2
        refine j_iload_n C 2 dX5_ruins_41 rfl 1 rfl ?_
        exact j_iret C dX5_ruins_42 h)
  refine j_aload_n C 0 dX5_ruins_0 rfl 0 rfl ?_
  refine j_iconst (v := (1 : Int32)) C dX5_ruins_1 (by decide) ?_
  refine j_callVI (As := [.int (1 : Int32)]) (rest := []) C 0 (c_X5_refusal h) (cwV 1 C.2.2.2.2.2.1 gX5_ruins_X5_refusal rfl rfl rfl hdX5_refusal ⟨Nat.le_of_ble_eq_true rfl, Nat.le_of_ble_eq_true rfl⟩) rfl rfl rfl rfl (Nat.le_of_ble_eq_true rfl) dX5_ruins_2 (fun r6 σ5 h => ?_)
  refine j_istore_n (lv' := [(1, .int r6), (0, .ref (eA E 0))]) C 1 dX5_ruins_5 rfl (by decide) rfl ?_
  refine j_iload_n C 1 dX5_ruins_6 rfl 0 rfl ?_
  refine j_if_eq C 12 dX5_ruins_7 (by decide) (fun c7 => ?_) (fun c7 => ?_)
  · replace h := h.1 c7
    refine j_aload_n C 0 dX5_ruins_12 rfl 1 rfl ?_
    refine j_getR C 19 0 2 rfl rfl rfl in_X5_ruins_X5 (by decide) (by decide +kernel) dX5_ruins_13 ?_
    refine j_aload_n C 0 dX5_ruins_16 rfl 1 rfl ?_
    refine j_getR C 12 0 1 rfl rfl rfl in_X5_ruins_X5 (by decide) (by decide +kernel) dX5_ruins_17 ?_
    refine j_callVV (As := [.ref (eA E 12)]) (rest := []) C 19 (c_X0_copyFrom (rfl) (rfl) h) (cwV 1 C.2.2.2.2.2.1 gX5_ruins_X0_copyFrom rfl rfl rfl hdX0_copyFrom ⟨Nat.le_of_ble_eq_true rfl, Nat.le_of_ble_eq_true rfl⟩) (shp_dyn (rfl)) rfl rfl rfl (Nat.le_of_ble_eq_true rfl) dX5_ruins_20 (fun σ8 h => ?_)
    refine j_iconst (v := (0 : Int32)) C dX5_ruins_23 (by decide) ?_
    refine j_istore_n (lv' := [(2, .int (0 : Int32)), (1, .int r6), (0, .ref (eA E 0))]) C 2 dX5_ruins_24 rfl (by decide) rfl ?_
    exact j_sub (lv' := [(0, .ref (eA E 0)), (2, .int (0 : Int32))]) [2, 0] rfl h
  · replace h := h.2 c7
    refine j_iload_n C 1 dX5_ruins_10 rfl 0 rfl ?_
    exact j_iret C dX5_ruins_11 h
def wp_X5_need (a1 : Int32) (σ : Mem) (Q : Int32 → Mem → Prop) : Prop :=
  wp_X5_isHeir a1 σ (fun r2 σ1 => wp_X5_refusal r2 σ1 (fun r4 σ3 => (r4 = 0 → wp_X5_firstReignOf a1 σ3 (fun r7 σ6 => (¬ r7 = (-4 : Int32) → wp_X0_copyFrom 19 12 σ6 (fun σ9 => wp_X0_pass 19 ((r7 - (1 : Int32))) σ9 (fun σ10 => wp_X0_heightOf 19 ((σ10.1 (19 + 6) ((0 : Int32)).toNatClampNeg)) σ10 (fun r12 σ11 => ∀ v13 : Int32, v13 = (r12 + (σ11.1 19 3)) → ((20 : Int32) < v13 → Q (-4 : Int32) σ11) ∧ (¬ (20 : Int32) < v13 → Q v13 σ11))))) ∧ (r7 = (-4 : Int32) → Q (-4 : Int32) σ6))) ∧ (¬ r4 = 0 → Q r4 σ3)))
theorem in_X5_need_X0 : ∀ w ∈ wsX00, w ∈ wsX5_need := fun _ h => List.mem_cons_of_mem _ (List.mem_append_right _ h)
theorem in_X5_need_X5 : ∀ w ∈ wsX50, w ∈ wsX5_need := fun _ h => List.mem_cons_of_mem _ (List.mem_append_left _ (List.mem_append_right _ h))
def rmX5_need : Room := { frames := 5, cells := 0, slots := 0, locals := 108 }
theorem hdX5_need : yX5_need.cls = RX5 ∧ yX5_need.cls ≠ "java/lang/invoke/MethodHandle" ∧ yX5_need.cls ≠ "java/lang/invoke/VarHandle" ∧ (parseMethodDescriptor yX5_need.desc).map (fun d => d.parameters.length) = some 1 := by decide +kernel
set_option maxHeartbeats 4000000 in
set_option maxRecDepth 100000 in
theorem c_X5_need {l : Launch} {E : EE} {a1 : Int32}  {σ : Mem} {Q : Int32 → Mem → Prop} (h : wp_X5_need a1 σ Q) : CtI l yX5_need wsX5_need rmX5_need E [.ref (eA E 0), .int a1] σ Q := by
  refine metI (cc := cX5_need) (nL := 5) (ret := (some .int)) (lv := [(0, .ref (eA E 0)), (1, .int a1)]) (by decide) rfl (Nat.le_of_ble_eq_true rfl) rfl ?_
  intro p e s m args below meth c C
  unfold wp_X5_need at h
  refine j_aload_n C 0 dX5_need_0 rfl 0 rfl ?_
  refine j_aload_n C 0 dX5_need_1 rfl 0 rfl ?_
  refine j_iload_n C 1 dX5_need_2 rfl 1 rfl ?_
  refine j_callVI (As := [.int a1]) (rest := [.ref (eA E 0)]) C 0 (c_X5_isHeir h) (cwV 1 C.2.2.2.2.2.1 gX5_need_X5_isHeir rfl rfl rfl hdX5_isHeir ⟨Nat.le_of_ble_eq_true rfl, Nat.le_of_ble_eq_true rfl⟩) rfl rfl rfl rfl (Nat.le_of_ble_eq_true rfl) dX5_need_3 (fun r2 σ1 h => ?_)
  refine j_callVI (As := [.int r2]) (rest := []) C 0 (c_X5_refusal h) (cwV 1 C.2.2.2.2.2.1 gX5_need_X5_refusal rfl rfl rfl hdX5_refusal ⟨Nat.le_of_ble_eq_true rfl, Nat.le_of_ble_eq_true rfl⟩) rfl rfl rfl rfl (Nat.le_of_ble_eq_true rfl) dX5_need_6 (fun r4 σ3 h => ?_)
  refine j_istore_n (lv' := [(2, .int r4), (0, .ref (eA E 0)), (1, .int a1)]) C 2 dX5_need_9 rfl (by decide) rfl ?_
  refine j_iload_n C 2 dX5_need_10 rfl 0 rfl ?_
  refine j_if_eq C 16 dX5_need_11 (by decide) (fun c5 => ?_) (fun c5 => ?_)
  · replace h := h.1 c5
    refine j_aload_n C 0 dX5_need_16 rfl 1 rfl ?_
    refine j_iload_n C 1 dX5_need_17 rfl 2 rfl ?_
    refine j_callVI (As := [.int a1]) (rest := []) C 0 (c_X5_firstReignOf h) (cwV 1 C.2.2.2.2.2.1 gX5_need_X5_firstReignOf rfl rfl rfl hdX5_firstReignOf ⟨Nat.le_of_ble_eq_true rfl, Nat.le_of_ble_eq_true rfl⟩) rfl rfl rfl rfl (Nat.le_of_ble_eq_true rfl) dX5_need_18 (fun r7 σ6 h => ?_)
    refine j_istore_n (lv' := [(3, .int r7), (2, .int r4), (0, .ref (eA E 0)), (1, .int a1)]) C 3 dX5_need_21 rfl (by decide) rfl ?_
    refine j_iload_n C 3 dX5_need_22 rfl 0 rfl ?_
    refine j_bipush (v := (-4 : Int32)) C dX5_need_23 (by decide) ?_
    refine j_icmp_ne C 31 dX5_need_25 (by decide) (fun c8 => ?_) (fun c8 => ?_)
    · replace h := h.1 c8
      refine j_aload_n C 0 dX5_need_31 rfl 2 rfl ?_
      refine j_getR C 19 0 2 rfl rfl rfl in_X5_need_X5 (by decide) (by decide +kernel) dX5_need_32 ?_
      refine j_aload_n C 0 dX5_need_35 rfl 2 rfl ?_
      refine j_getR C 12 0 1 rfl rfl rfl in_X5_need_X5 (by decide) (by decide +kernel) dX5_need_36 ?_
      refine j_callVV (As := [.ref (eA E 12)]) (rest := []) C 19 (c_X0_copyFrom (rfl) (rfl) h) (cwV 1 C.2.2.2.2.2.1 gX5_need_X0_copyFrom rfl rfl rfl hdX0_copyFrom ⟨Nat.le_of_ble_eq_true rfl, Nat.le_of_ble_eq_true rfl⟩) (shp_dyn (rfl)) rfl rfl rfl (Nat.le_of_ble_eq_true rfl) dX5_need_39 (fun σ9 h => ?_)
      refine j_aload_n C 0 dX5_need_42 rfl 2 rfl ?_
      refine j_getR C 19 0 2 rfl rfl rfl in_X5_need_X5 (by decide) (by decide +kernel) dX5_need_43 ?_
      refine j_iload_n C 3 dX5_need_46 rfl 0 rfl ?_
      refine j_iconst (v := (1 : Int32)) C dX5_need_47 (by decide) ?_
      refine j_isub C dX5_need_48 ?_
      refine j_callVV (As := [.int (r7 - (1 : Int32))]) (rest := []) C 19 (c_X0_pass (rfl) h) (cwV 1 C.2.2.2.2.2.1 gX5_need_X0_pass rfl rfl rfl hdX0_pass ⟨Nat.le_of_ble_eq_true rfl, Nat.le_of_ble_eq_true rfl⟩) (shp_dyn (rfl)) rfl rfl rfl (Nat.le_of_ble_eq_true rfl) dX5_need_49 (fun σ10 h => ?_)
      refine j_aload_n C 0 dX5_need_52 rfl 2 rfl ?_
      refine j_getR C 19 0 2 rfl rfl rfl in_X5_need_X5 (by decide) (by decide +kernel) dX5_need_53 ?_
      refine j_aload_n C 0 dX5_need_56 rfl 2 rfl ?_
      refine j_getR C 19 0 2 rfl rfl rfl in_X5_need_X5 (by decide) (by decide +kernel) dX5_need_57 ?_
      refine j_getR C (19 + 6) 19 1 (shp_dyn (rfl)) rfl rfl in_X5_need_X0 (by decide) (by decide +kernel) dX5_need_60 ?_
      refine j_iconst (v := (0 : Int32)) C dX5_need_63 (by decide) ?_
      refine j_iald C (19 + 6) (shp_dynL (rfl)) dX5_need_64 (in_lit rfl) ?_
      refine j_callVI (As := [.int (σ10.1 (19 + 6) ((0 : Int32)).toNatClampNeg)]) (rest := []) C 19 (c_X0_heightOf (rfl) h) (cwV 1 C.2.2.2.2.2.1 gX5_need_X0_heightOf rfl rfl rfl hdX0_heightOf ⟨Nat.le_of_ble_eq_true rfl, Nat.le_of_ble_eq_true rfl⟩) (shp_dyn (rfl)) rfl rfl rfl (Nat.le_of_ble_eq_true rfl) dX5_need_65 (fun r12 σ11 h => ?_)
      refine j_aload_n C 0 dX5_need_68 rfl 2 rfl ?_
      refine j_getR C 19 0 2 rfl rfl rfl in_X5_need_X5 (by decide) (by decide +kernel) dX5_need_69 ?_
      refine j_getI C 19 3 (shp_dyn (rfl)) rfl rfl in_X5_need_X0 (by decide) (by decide +kernel) dX5_need_72 ?_
      refine j_iadd C dX5_need_75 ?_
      refine j_topi (fun v13 ev13 => ?_)
      replace h := h v13 ev13
      refine j_istore (lv' := [(4, .int v13), (3, .int r7), (2, .int r4), (0, .ref (eA E 0)), (1, .int a1)]) C 4 dX5_need_76 (by decide) rfl ?_
      refine j_iload C 4 dX5_need_78 0 rfl ?_
      refine j_bipush (v := (20 : Int32)) C dX5_need_80 (by decide) ?_
      refine j_icmp_gt C 90 dX5_need_82 (by decide) (fun c14 => ?_) (fun c14 => ?_)
      · replace h := h.1 c14
        refine j_bipush (v := (-4 : Int32)) C dX5_need_90 (by decide) ?_
        exact j_iret C dX5_need_92 h
      · replace h := h.2 c14
        refine j_iload C 4 dX5_need_85 0 rfl ?_
        refine j_goto C 92 dX5_need_87 (by decide) ?_
        exact j_iret C dX5_need_92 h
    · replace h := h.2 c8
      refine j_bipush (v := (-4 : Int32)) C dX5_need_28 (by decide) ?_
      exact j_iret C dX5_need_30 h
  · replace h := h.2 c5
    refine j_iload_n C 2 dX5_need_14 rfl 0 rfl ?_
    exact j_iret C dX5_need_15 h
def wp_X5_isWhichOrMuch (a0 : Int32) (σ : Mem) (Q : Int32 → Mem → Prop) : Prop :=
  wp_X5_within a0 (0 : Int32) (1 : Int32) σ (fun r2 σ1 => (r2 = 0 ∨ r2 = 1) ∧ Q r2 σ1)
def rmX5_isWhichOrMuch : Room := { frames := 1, cells := 0, slots := 0, locals := 22 }
theorem hdX5_isWhichOrMuch : yX5_isWhichOrMuch.cls = RX5 ∧ yX5_isWhichOrMuch.cls ≠ "java/lang/invoke/MethodHandle" ∧ yX5_isWhichOrMuch.cls ≠ "java/lang/invoke/VarHandle" ∧ (parseMethodDescriptor yX5_isWhichOrMuch.desc).map (fun d => d.parameters.length) = some 1 := by decide +kernel
set_option maxHeartbeats 4000000 in
set_option maxRecDepth 100000 in
theorem c_X5_isWhichOrMuch {l : Launch} {E : EE} {a0 : Int32}  {σ : Mem} {Q : Int32 → Mem → Prop} (h : wp_X5_isWhichOrMuch a0 σ Q) : CtI l yX5_isWhichOrMuch wsX5_isWhichOrMuch rmX5_isWhichOrMuch E [.int a0] σ Q := by
  refine metI (cc := cX5_isWhichOrMuch) (nL := 1) (ret := (some .boolean)) (lv := [(0, .int a0)]) (by decide) rfl (Nat.le_of_ble_eq_true rfl) rfl ?_
  intro p e s m args below meth c C
  unfold wp_X5_isWhichOrMuch at h
  refine j_iload_n C 0 dX5_isWhichOrMuch_0 rfl 0 rfl ?_
  refine j_iconst (v := (0 : Int32)) C dX5_isWhichOrMuch_1 (by decide) ?_
  refine j_iconst (v := (1 : Int32)) C dX5_isWhichOrMuch_2 (by decide) ?_
  refine j_callSI (As := [.int a0, .int (0 : Int32), .int (1 : Int32)]) (rest := []) C (c_X5_within h) (va_cwS 3 C.2.2.2.2.2.1 gX5_isWhichOrMuch_X5_within rfl rfl rfl hdX5_within.2 ⟨Nat.le_of_ble_eq_true rfl, Nat.le_of_ble_eq_true rfl⟩) rfl rfl (Nat.le_of_ble_eq_true rfl) dX5_isWhichOrMuch_3 (fun r2 σ1 h => ?_)
  exact j_zret C dX5_isWhichOrMuch_6 h.1 h.2
def wp_X5_whichOrMuch (a0 : Int32) (a1 : Int32) (a2 : Int32) (σ : Mem) (Q : Int32 → Mem → Prop) : Prop :=
  (¬ a1 = (-4 : Int32) → (¬ a0 = 0 → Q a2 σ) ∧ (a0 = 0 → Q a1 σ)) ∧ (a1 = (-4 : Int32) → Q (-4 : Int32) σ)
def rmX5_whichOrMuch : Room := { frames := 0, cells := 0, slots := 0, locals := 0 }
theorem hdX5_whichOrMuch : yX5_whichOrMuch.cls = RX5 ∧ yX5_whichOrMuch.cls ≠ "java/lang/invoke/MethodHandle" ∧ yX5_whichOrMuch.cls ≠ "java/lang/invoke/VarHandle" ∧ (parseMethodDescriptor yX5_whichOrMuch.desc).map (fun d => d.parameters.length) = some 3 := by decide +kernel
set_option maxHeartbeats 4000000 in
set_option maxRecDepth 100000 in
theorem c_X5_whichOrMuch {l : Launch} {E : EE} {a0 : Int32} {a1 : Int32} {a2 : Int32}  {σ : Mem} {Q : Int32 → Mem → Prop} (h : wp_X5_whichOrMuch a0 a1 a2 σ Q) : CtI l yX5_whichOrMuch wsX5_whichOrMuch rmX5_whichOrMuch E [.int a0, .int a1, .int a2] σ Q := by
  refine metI (cc := cX5_whichOrMuch) (nL := 3) (ret := (some .int)) (lv := [(0, .int a0), (1, .int a1), (2, .int a2)]) (by decide) rfl (Nat.le_of_ble_eq_true rfl) rfl ?_
  intro p e s m args below meth c C
  unfold wp_X5_whichOrMuch at h
  refine j_iload_n C 1 dX5_whichOrMuch_0 rfl 1 rfl ?_
  refine j_bipush (v := (-4 : Int32)) C dX5_whichOrMuch_1 (by decide) ?_
  refine j_icmp_ne C 9 dX5_whichOrMuch_3 (by decide) (fun c1 => ?_) (fun c1 => ?_)
  · replace h := h.1 c1
    refine j_iload_n C 0 dX5_whichOrMuch_9 rfl 0 rfl ?_
    refine j_if_ne C 17 dX5_whichOrMuch_10 (by decide) (fun c2 => ?_) (fun c2 => ?_)
    · replace h := h.1 c2
      refine j_iload_n C 2 dX5_whichOrMuch_17 rfl 2 rfl ?_
      exact j_iret C dX5_whichOrMuch_18 h
    · replace h := h.2 c2
      refine j_iload_n C 1 dX5_whichOrMuch_13 rfl 1 rfl ?_
      refine j_goto C 18 dX5_whichOrMuch_14 (by decide) ?_
      exact j_iret C dX5_whichOrMuch_18 h
  · replace h := h.2 c1
    refine j_bipush (v := (-4 : Int32)) C dX5_whichOrMuch_6 (by decide) ?_
    exact j_iret C dX5_whichOrMuch_8 h
def wp_X5_order (a1 : Int32) (a2 : Int32) (σ : Mem) (Q : Int32 → Mem → Prop) : Prop :=
  ∀ (P19 : Mem → Prop) (P20 : Int32 → Mem → Prop) (P58 : Int32 → Int32 → Int32 → Mem → Prop) (P76 : Int32 → Int32 → Int32 → Int32 → Mem → Prop) (P141 : Int32 → Int32 → Int32 → Int32 → Mem → Prop),
  (∀ (σ : Mem), (P20 (0 : Int32) σ) → P19 σ) →
  (∀ (s0 : Int32) (σ : Mem), (wp_X5_refusal s0 σ (fun r2 σ1 => (r2 = 0 → wp_X0_copyFrom 19 12 σ1 (fun σ4 => wp_X0_worksBehind 19 a1 σ4 (fun r6 σ5 => P58 r6 (-4 : Int32) (0 : Int32) σ5))) ∧ (¬ r2 = 0 → Q r2 σ1))) → P20 s0 σ) →
  (∀ (x4 : Int32) (x5 : Int32) (x6 : Int32) (σ : Mem), (((σ.1 12 2) ≤ x6 → wp_X5_whichOrMuch a2 x5 x4 σ (fun r9 σ8 => Q r9 σ8)) ∧ (¬ (σ.1 12 2) ≤ x6 → ∀ v10 : Int32, v10 = (x6 + (1 : Int32)) → P76 x4 x5 x6 v10 σ)) → P58 x4 x5 x6 σ) →
  (∀ (x4 : Int32) (x5 : Int32) (x6 : Int32) (x7 : Int32) (σ : Mem), (((σ.1 12 2) ≤ x7 → ∀ v12 : Int32, v12 = x6 + (1 : Int32) → P58 x4 x5 v12 σ) ∧ (¬ (σ.1 12 2) ≤ x7 → wp_X0_copyFrom 19 12 σ (fun σ13 => wp_X0_swap 19 x6 x7 σ13 (fun σ14 => wp_X0_worksBehind 19 a1 σ14 (fun r16 σ15 => (r16 ≤ x4 → P141 x4 x5 x6 x7 σ15) ∧ (¬ r16 ≤ x4 → ∀ v18 : Int32, v18 = (((10 : Int32) * x6) + x7) → P141 r16 v18 x6 x7 σ15)))))) → P76 x4 x5 x6 x7 σ) →
  (∀ (x4 : Int32) (x5 : Int32) (x6 : Int32) (x7 : Int32) (σ : Mem), (∀ v19 : Int32, v19 = x7 + (1 : Int32) → P76 x4 x5 x6 v19 σ) → P141 x4 x5 x6 x7 σ) →
  wp_X5_isAhead a1 σ (fun r21 σ20 => (r21 = 0 → P19 σ20) ∧ (¬ r21 = 0 → wp_X5_isWhichOrMuch a2 σ20 (fun r24 σ23 => (r24 = 0 → P19 σ23) ∧ (¬ r24 = 0 → P20 (1 : Int32) σ23))))
theorem in_X5_order_X0 : ∀ w ∈ wsX00, w ∈ wsX5_order := fun _ h => List.mem_cons_of_mem _ (List.mem_append_right _ h)
theorem in_X5_order_X5 : ∀ w ∈ wsX50, w ∈ wsX5_order := fun _ h => List.mem_cons_of_mem _ (List.mem_append_left _ (List.mem_append_right _ h))
def rmX5_order : Room := { frames := 6, cells := 0, slots := 0, locals := 129 }
theorem hdX5_order : yX5_order.cls = RX5 ∧ yX5_order.cls ≠ "java/lang/invoke/MethodHandle" ∧ yX5_order.cls ≠ "java/lang/invoke/VarHandle" ∧ (parseMethodDescriptor yX5_order.desc).map (fun d => d.parameters.length) = some 2 := by decide +kernel
set_option maxHeartbeats 4000000 in
set_option maxRecDepth 100000 in
theorem c_X5_order {l : Launch} {E : EE} {a1 : Int32} {a2 : Int32}  {σ : Mem} {Q : Int32 → Mem → Prop} (h : wp_X5_order a1 a2 σ Q) : CtI l yX5_order wsX5_order rmX5_order E [.ref (eA E 0), .int a1, .int a2] σ Q := by
  refine metI (cc := cX5_order) (nL := 9) (ret := (some .int)) (lv := [(0, .ref (eA E 0)), (1, .int a1), (2, .int a2)]) (by decide) rfl (Nat.le_of_ble_eq_true rfl) rfl ?_
  intro p e s m args below meth c C
  unfold wp_X5_order at h
  replace h := h (fun (σ : Mem) => J E p l e rmX5_order s m args below meth c (QI E below args s Q) 9 19 [(0, .ref (eA E 0)), (1, .int a1), (2, .int a2)] [.ref (eA E 0)] σ) (fun (s0 : Int32) (σ : Mem) => J E p l e rmX5_order s m args below meth c (QI E below args s Q) 9 20 [(0, .ref (eA E 0)), (1, .int a1), (2, .int a2)] [.int s0, .ref (eA E 0)] σ) (fun (x4 : Int32) (x5 : Int32) (x6 : Int32) (σ : Mem) => J E p l e rmX5_order s m args below meth c (QI E below args s Q) 9 58 [(0, .ref (eA E 0)), (1, .int a1), (2, .int a2), (4, .int x4), (5, .int x5), (6, .int x6)] [] σ) (fun (x4 : Int32) (x5 : Int32) (x6 : Int32) (x7 : Int32) (σ : Mem) => J E p l e rmX5_order s m args below meth c (QI E below args s Q) 9 76 [(0, .ref (eA E 0)), (1, .int a1), (2, .int a2), (4, .int x4), (5, .int x5), (6, .int x6), (7, .int x7)] [] σ) (fun (x4 : Int32) (x5 : Int32) (x6 : Int32) (x7 : Int32) (σ : Mem) => J E p l e rmX5_order s m args below meth c (QI E below args s Q) 9 141 [(0, .ref (eA E 0)), (1, .int a1), (2, .int a2), (4, .int x4), (5, .int x5), (6, .int x6), (7, .int x7)] [] σ) (by
    intro σ h
    refine j_iconst (v := (0 : Int32)) C dX5_order_19 (by decide) ?_
    exact j_sub (lv' := [(0, .ref (eA E 0)), (1, .int a1), (2, .int a2)]) [0, 1, 2] rfl h) (by
    intro s0 σ h
    refine j_callVI (As := [.int s0]) (rest := []) C 0 (c_X5_refusal h) (cwV 1 C.2.2.2.2.2.1 gX5_order_X5_refusal rfl rfl rfl hdX5_refusal ⟨Nat.le_of_ble_eq_true rfl, Nat.le_of_ble_eq_true rfl⟩) rfl rfl rfl rfl (Nat.le_of_ble_eq_true rfl) dX5_order_20 (fun r2 σ1 h => ?_)
    refine j_istore_n (lv' := [(3, .int r2), (0, .ref (eA E 0)), (1, .int a1), (2, .int a2)]) C 3 dX5_order_23 rfl (by decide) rfl ?_
    refine j_iload_n C 3 dX5_order_24 rfl 0 rfl ?_
    refine j_if_eq C 30 dX5_order_25 (by decide) (fun c3 => ?_) (fun c3 => ?_)
    · replace h := h.1 c3
      refine j_aload_n C 0 dX5_order_30 rfl 1 rfl ?_
      refine j_getR C 19 0 2 rfl rfl rfl in_X5_order_X5 (by decide) (by decide +kernel) dX5_order_31 ?_
      refine j_aload_n C 0 dX5_order_34 rfl 1 rfl ?_
      refine j_getR C 12 0 1 rfl rfl rfl in_X5_order_X5 (by decide) (by decide +kernel) dX5_order_35 ?_
      refine j_callVV (As := [.ref (eA E 12)]) (rest := []) C 19 (c_X0_copyFrom (rfl) (rfl) h) (cwV 1 C.2.2.2.2.2.1 gX5_order_X0_copyFrom rfl rfl rfl hdX0_copyFrom ⟨Nat.le_of_ble_eq_true rfl, Nat.le_of_ble_eq_true rfl⟩) (shp_dyn (rfl)) rfl rfl rfl (Nat.le_of_ble_eq_true rfl) dX5_order_38 (fun σ4 h => ?_)
      refine j_aload_n C 0 dX5_order_41 rfl 1 rfl ?_
      refine j_getR C 19 0 2 rfl rfl rfl in_X5_order_X5 (by decide) (by decide +kernel) dX5_order_42 ?_
      refine j_iload_n C 1 dX5_order_45 rfl 2 rfl ?_
      refine j_callVI (As := [.int a1]) (rest := []) C 19 (c_X0_worksBehind (rfl) h) (cwV 1 C.2.2.2.2.2.1 gX5_order_X0_worksBehind rfl rfl rfl hdX0_worksBehind ⟨Nat.le_of_ble_eq_true rfl, Nat.le_of_ble_eq_true rfl⟩) (shp_dyn (rfl)) rfl rfl rfl (Nat.le_of_ble_eq_true rfl) dX5_order_46 (fun r6 σ5 h => ?_)
      refine j_istore (lv' := [(4, .int r6), (3, .int r2), (0, .ref (eA E 0)), (1, .int a1), (2, .int a2)]) C 4 dX5_order_49 (by decide) rfl ?_
      refine j_bipush (v := (-4 : Int32)) C dX5_order_51 (by decide) ?_
      refine j_istore (lv' := [(5, .int (-4 : Int32)), (4, .int r6), (3, .int r2), (0, .ref (eA E 0)), (1, .int a1), (2, .int a2)]) C 5 dX5_order_53 (by decide) rfl ?_
      refine j_iconst (v := (0 : Int32)) C dX5_order_55 (by decide) ?_
      refine j_istore (lv' := [(6, .int (0 : Int32)), (5, .int (-4 : Int32)), (4, .int r6), (3, .int r2), (0, .ref (eA E 0)), (1, .int a1), (2, .int a2)]) C 6 dX5_order_56 (by decide) rfl ?_
      exact j_sub (lv' := [(0, .ref (eA E 0)), (1, .int a1), (2, .int a2), (4, .int r6), (5, .int (-4 : Int32)), (6, .int (0 : Int32))]) [4, 5, 6, 2, 1, 0] rfl h
    · replace h := h.2 c3
      refine j_iload_n C 3 dX5_order_28 rfl 0 rfl ?_
      exact j_iret C dX5_order_29 h) (by
    intro x4 x5 x6 σ h
    refine j_iload C 6 dX5_order_58 5 rfl ?_
    refine j_aload_n C 0 dX5_order_60 rfl 0 rfl ?_
    refine j_getR C 12 0 1 rfl rfl rfl in_X5_order_X5 (by decide) (by decide +kernel) dX5_order_61 ?_
    refine j_getI C 12 2 (shp_dyn (rfl)) rfl rfl in_X5_order_X0 (by decide) (by decide +kernel) dX5_order_64 ?_
    refine j_icmp_ge C 153 dX5_order_67 (by decide) (fun c7 => ?_) (fun c7 => ?_)
    · replace h := h.1 c7
      refine j_iload_n C 2 dX5_order_153 rfl 2 rfl ?_
      refine j_iload C 5 dX5_order_154 4 rfl ?_
      refine j_iload C 4 dX5_order_156 3 rfl ?_
      refine j_callSI (As := [.int a2, .int x5, .int x4]) (rest := []) C (c_X5_whichOrMuch h) (va_cwS 3 C.2.2.2.2.2.1 gX5_order_X5_whichOrMuch rfl rfl rfl hdX5_whichOrMuch.2 ⟨Nat.le_of_ble_eq_true rfl, Nat.le_of_ble_eq_true rfl⟩) rfl rfl (Nat.le_of_ble_eq_true rfl) dX5_order_158 (fun r9 σ8 h => ?_)
      exact j_iret C dX5_order_161 h
    · replace h := h.2 c7
      refine j_iload C 6 dX5_order_70 5 rfl ?_
      refine j_iconst (v := (1 : Int32)) C dX5_order_72 (by decide) ?_
      refine j_iadd C dX5_order_73 ?_
      refine j_topi (fun v10 ev10 => ?_)
      replace h := h v10 ev10
      refine j_istore (lv' := [(7, .int v10), (0, .ref (eA E 0)), (1, .int a1), (2, .int a2), (4, .int x4), (5, .int x5), (6, .int x6)]) C 7 dX5_order_74 (by decide) rfl ?_
      exact j_sub (lv' := [(0, .ref (eA E 0)), (1, .int a1), (2, .int a2), (4, .int x4), (5, .int x5), (6, .int x6), (7, .int v10)]) [1, 2, 3, 4, 5, 6, 0] rfl h) (by
    intro x4 x5 x6 x7 σ h
    refine j_iload C 7 dX5_order_76 6 rfl ?_
    refine j_aload_n C 0 dX5_order_78 rfl 0 rfl ?_
    refine j_getR C 12 0 1 rfl rfl rfl in_X5_order_X5 (by decide) (by decide +kernel) dX5_order_79 ?_
    refine j_getI C 12 2 (shp_dyn (rfl)) rfl rfl in_X5_order_X0 (by decide) (by decide +kernel) dX5_order_82 ?_
    refine j_icmp_ge C 147 dX5_order_85 (by decide) (fun c11 => ?_) (fun c11 => ?_)
    · replace h := h.1 c11
      obtain ⟨v12, ev12⟩ : ∃ y : Int32, y = x6 + (1 : Int32) := ⟨_, rfl⟩
      replace h := h v12 ev12
      refine j_iinc (v := v12) (lv' := [(6, .int v12), (0, .ref (eA E 0)), (1, .int a1), (2, .int a2), (4, .int x4), (5, .int x5), (7, .int x7)]) C 6 dX5_order_147 5 rfl (by rw [ev12]; rfl) (by decide) rfl ?_
      refine j_goto C 58 dX5_order_150 (by decide) ?_
      exact j_sub (lv' := [(0, .ref (eA E 0)), (1, .int a1), (2, .int a2), (4, .int x4), (5, .int x5), (6, .int v12)]) [1, 2, 3, 4, 5, 0] rfl h
    · replace h := h.2 c11
      refine j_aload_n C 0 dX5_order_88 rfl 0 rfl ?_
      refine j_getR C 19 0 2 rfl rfl rfl in_X5_order_X5 (by decide) (by decide +kernel) dX5_order_89 ?_
      refine j_aload_n C 0 dX5_order_92 rfl 0 rfl ?_
      refine j_getR C 12 0 1 rfl rfl rfl in_X5_order_X5 (by decide) (by decide +kernel) dX5_order_93 ?_
      refine j_callVV (As := [.ref (eA E 12)]) (rest := []) C 19 (c_X0_copyFrom (rfl) (rfl) h) (cwV 1 C.2.2.2.2.2.1 gX5_order_X0_copyFrom rfl rfl rfl hdX0_copyFrom ⟨Nat.le_of_ble_eq_true rfl, Nat.le_of_ble_eq_true rfl⟩) (shp_dyn (rfl)) rfl rfl rfl (Nat.le_of_ble_eq_true rfl) dX5_order_96 (fun σ13 h => ?_)
      refine j_aload_n C 0 dX5_order_99 rfl 0 rfl ?_
      refine j_getR C 19 0 2 rfl rfl rfl in_X5_order_X5 (by decide) (by decide +kernel) dX5_order_100 ?_
      refine j_iload C 6 dX5_order_103 5 rfl ?_
      refine j_iload C 7 dX5_order_105 6 rfl ?_
      refine j_callVV (As := [.int x6, .int x7]) (rest := []) C 19 (c_X0_swap (rfl) h) (cwV 2 C.2.2.2.2.2.1 gX5_order_X0_swap rfl rfl rfl hdX0_swap ⟨Nat.le_of_ble_eq_true rfl, Nat.le_of_ble_eq_true rfl⟩) (shp_dyn (rfl)) rfl rfl rfl (Nat.le_of_ble_eq_true rfl) dX5_order_107 (fun σ14 h => ?_)
      refine j_aload_n C 0 dX5_order_110 rfl 0 rfl ?_
      refine j_getR C 19 0 2 rfl rfl rfl in_X5_order_X5 (by decide) (by decide +kernel) dX5_order_111 ?_
      refine j_iload_n C 1 dX5_order_114 rfl 1 rfl ?_
      refine j_callVI (As := [.int a1]) (rest := []) C 19 (c_X0_worksBehind (rfl) h) (cwV 1 C.2.2.2.2.2.1 gX5_order_X0_worksBehind rfl rfl rfl hdX0_worksBehind ⟨Nat.le_of_ble_eq_true rfl, Nat.le_of_ble_eq_true rfl⟩) (shp_dyn (rfl)) rfl rfl rfl (Nat.le_of_ble_eq_true rfl) dX5_order_115 (fun r16 σ15 h => ?_)
      refine j_istore (lv' := [(8, .int r16), (0, .ref (eA E 0)), (1, .int a1), (2, .int a2), (4, .int x4), (5, .int x5), (6, .int x6), (7, .int x7)]) C 8 dX5_order_118 (by decide) rfl ?_
      refine j_iload C 8 dX5_order_120 0 rfl ?_
      refine j_iload C 4 dX5_order_122 4 rfl ?_
      refine j_icmp_le C 141 dX5_order_124 (by decide) (fun c17 => ?_) (fun c17 => ?_)
      · replace h := h.1 c17
        exact j_sub (lv' := [(0, .ref (eA E 0)), (1, .int a1), (2, .int a2), (4, .int x4), (5, .int x5), (6, .int x6), (7, .int x7)]) [1, 2, 3, 4, 5, 6, 7] rfl h
      · replace h := h.2 c17
        refine j_iload C 8 dX5_order_127 0 rfl ?_
        refine j_istore (lv' := [(4, .int r16), (8, .int r16), (0, .ref (eA E 0)), (1, .int a1), (2, .int a2), (5, .int x5), (6, .int x6), (7, .int x7)]) C 4 dX5_order_129 (by decide) rfl ?_
        refine j_bipush (v := (10 : Int32)) C dX5_order_131 (by decide) ?_
        refine j_iload C 6 dX5_order_133 6 rfl ?_
        refine j_imul C dX5_order_135 ?_
        refine j_iload C 7 dX5_order_136 7 rfl ?_
        refine j_iadd C dX5_order_138 ?_
        refine j_topi (fun v18 ev18 => ?_)
        replace h := h v18 ev18
        refine j_istore (lv' := [(5, .int v18), (4, .int r16), (8, .int r16), (0, .ref (eA E 0)), (1, .int a1), (2, .int a2), (6, .int x6), (7, .int x7)]) C 5 dX5_order_139 (by decide) rfl ?_
        exact j_sub (lv' := [(0, .ref (eA E 0)), (1, .int a1), (2, .int a2), (4, .int r16), (5, .int v18), (6, .int x6), (7, .int x7)]) [3, 4, 5, 1, 0, 6, 7] rfl h) (by
    intro x4 x5 x6 x7 σ h
    obtain ⟨v19, ev19⟩ : ∃ y : Int32, y = x7 + (1 : Int32) := ⟨_, rfl⟩
    replace h := h v19 ev19
    refine j_iinc (v := v19) (lv' := [(7, .int v19), (0, .ref (eA E 0)), (1, .int a1), (2, .int a2), (4, .int x4), (5, .int x5), (6, .int x6)]) C 7 dX5_order_141 6 rfl (by rw [ev19]; rfl) (by decide) rfl ?_
    refine j_goto C 76 dX5_order_144 (by decide) ?_
    exact j_sub (lv' := [(0, .ref (eA E 0)), (1, .int a1), (2, .int a2), (4, .int x4), (5, .int x5), (6, .int x6), (7, .int v19)]) [1, 2, 3, 4, 5, 6, 0] rfl h)
  refine j_aload_n C 0 dX5_order_0 rfl 0 rfl ?_
  refine j_iload_n C 1 dX5_order_1 rfl 1 rfl ?_
  refine j_callSI (As := [.int a1]) (rest := [.ref (eA E 0)]) C (c_X5_isAhead h) (va_cwS 1 C.2.2.2.2.2.1 gX5_order_X5_isAhead rfl rfl rfl hdX5_isAhead.2 ⟨Nat.le_of_ble_eq_true rfl, Nat.le_of_ble_eq_true rfl⟩) rfl rfl (Nat.le_of_ble_eq_true rfl) dX5_order_2 (fun r21 σ20 h => ?_)
  refine j_if_eq C 19 dX5_order_5 (by decide) (fun c22 => ?_) (fun c22 => ?_)
  · replace h := h.1 c22
    exact j_sub (lv' := [(0, .ref (eA E 0)), (1, .int a1), (2, .int a2)]) [0, 1, 2] rfl h
  · replace h := h.2 c22
    refine j_iload_n C 2 dX5_order_8 rfl 2 rfl ?_
    refine j_callSI (As := [.int a2]) (rest := [.ref (eA E 0)]) C (c_X5_isWhichOrMuch h) (va_cwS 1 C.2.2.2.2.2.1 gX5_order_X5_isWhichOrMuch rfl rfl rfl hdX5_isWhichOrMuch.2 ⟨Nat.le_of_ble_eq_true rfl, Nat.le_of_ble_eq_true rfl⟩) rfl rfl (Nat.le_of_ble_eq_true rfl) dX5_order_9 (fun r24 σ23 h => ?_)
    refine j_if_eq C 19 dX5_order_12 (by decide) (fun c25 => ?_) (fun c25 => ?_)
    · replace h := h.1 c25
      exact j_sub (lv' := [(0, .ref (eA E 0)), (1, .int a1), (2, .int a2)]) [0, 1, 2] rfl h
    · replace h := h.2 c25
      refine j_iconst (v := (1 : Int32)) C dX5_order_15 (by decide) ?_
      refine j_goto C 20 dX5_order_16 (by decide) ?_
      exact j_sub (lv' := [(0, .ref (eA E 0)), (1, .int a1), (2, .int a2)]) [0, 1, 2] rfl h
def wp_X5_stool (a1 : Int32) (a2 : Int32) (σ : Mem) (Q : Int32 → Mem → Prop) : Prop :=
  ∀ (P19 : Mem → Prop) (P20 : Int32 → Mem → Prop) (P58 : Int32 → Int32 → Int32 → Mem → Prop) (P119 : Int32 → Int32 → Int32 → Mem → Prop),
  (∀ (σ : Mem), (P20 (0 : Int32) σ) → P19 σ) →
  (∀ (s0 : Int32) (σ : Mem), (wp_X5_refusal s0 σ (fun r2 σ1 => (r2 = 0 → wp_X0_copyFrom 19 12 σ1 (fun σ4 => wp_X0_fallsIn 19 a1 σ4 (fun r6 σ5 => P58 r6 (-4 : Int32) (0 : Int32) σ5))) ∧ (¬ r2 = 0 → Q r2 σ1))) → P20 s0 σ) →
  (∀ (x4 : Int32) (x5 : Int32) (x6 : Int32) (σ : Mem), (((σ.1 12 2) ≤ x6 → wp_X5_whichOrMuch a2 x5 x4 σ (fun r9 σ8 => Q r9 σ8)) ∧ (¬ (σ.1 12 2) ≤ x6 → wp_X0_copyFrom 19 12 σ (fun σ10 => vp_in x6 6 ∧ (∀ σ12 : Mem, σ12 = st1 σ10 (19 + 2 + 1 * ((0 : Int32)).toNatClampNeg) (x6).toNatClampNeg (3 : Int32) → wp_X0_fallsIn 19 a1 σ12 (fun r14 σ13 => (x4 ≤ r14 → P119 x4 x5 x6 σ13) ∧ (¬ x4 ≤ r14 → P119 r14 x6 x6 σ13)))))) → P58 x4 x5 x6 σ) →
  (∀ (x4 : Int32) (x5 : Int32) (x6 : Int32) (σ : Mem), (∀ v16 : Int32, v16 = x6 + (1 : Int32) → P58 x4 x5 v16 σ) → P119 x4 x5 x6 σ) →
  wp_X5_isAhead a1 σ (fun r18 σ17 => (r18 = 0 → P19 σ17) ∧ (¬ r18 = 0 → wp_X5_isWhichOrMuch a2 σ17 (fun r21 σ20 => (r21 = 0 → P19 σ20) ∧ (¬ r21 = 0 → P20 (1 : Int32) σ20))))
theorem in_X5_stool_X0 : ∀ w ∈ wsX00, w ∈ wsX5_stool := fun _ h => List.mem_cons_of_mem _ (List.mem_append_right _ h)
theorem in_X5_stool_X5 : ∀ w ∈ wsX50, w ∈ wsX5_stool := fun _ h => List.mem_cons_of_mem _ (List.mem_append_left _ (List.mem_append_right _ h))
def rmX5_stool : Room := { frames := 6, cells := 0, slots := 0, locals := 130 }
theorem hdX5_stool : yX5_stool.cls = RX5 ∧ yX5_stool.cls ≠ "java/lang/invoke/MethodHandle" ∧ yX5_stool.cls ≠ "java/lang/invoke/VarHandle" ∧ (parseMethodDescriptor yX5_stool.desc).map (fun d => d.parameters.length) = some 2 := by decide +kernel
set_option maxHeartbeats 4000000 in
set_option maxRecDepth 100000 in
theorem c_X5_stool {l : Launch} {E : EE} {a1 : Int32} {a2 : Int32}  {σ : Mem} {Q : Int32 → Mem → Prop} (h : wp_X5_stool a1 a2 σ Q) : CtI l yX5_stool wsX5_stool rmX5_stool E [.ref (eA E 0), .int a1, .int a2] σ Q := by
  refine metI (cc := cX5_stool) (nL := 8) (ret := (some .int)) (lv := [(0, .ref (eA E 0)), (1, .int a1), (2, .int a2)]) (by decide) rfl (Nat.le_of_ble_eq_true rfl) rfl ?_
  intro p e s m args below meth c C
  unfold wp_X5_stool at h
  replace h := h (fun (σ : Mem) => J E p l e rmX5_stool s m args below meth c (QI E below args s Q) 8 19 [(0, .ref (eA E 0)), (1, .int a1), (2, .int a2)] [.ref (eA E 0)] σ) (fun (s0 : Int32) (σ : Mem) => J E p l e rmX5_stool s m args below meth c (QI E below args s Q) 8 20 [(0, .ref (eA E 0)), (1, .int a1), (2, .int a2)] [.int s0, .ref (eA E 0)] σ) (fun (x4 : Int32) (x5 : Int32) (x6 : Int32) (σ : Mem) => J E p l e rmX5_stool s m args below meth c (QI E below args s Q) 8 58 [(0, .ref (eA E 0)), (1, .int a1), (2, .int a2), (4, .int x4), (5, .int x5), (6, .int x6)] [] σ) (fun (x4 : Int32) (x5 : Int32) (x6 : Int32) (σ : Mem) => J E p l e rmX5_stool s m args below meth c (QI E below args s Q) 8 119 [(0, .ref (eA E 0)), (1, .int a1), (2, .int a2), (4, .int x4), (5, .int x5), (6, .int x6)] [] σ) (by
    intro σ h
    refine j_iconst (v := (0 : Int32)) C dX5_stool_19 (by decide) ?_
    exact j_sub (lv' := [(0, .ref (eA E 0)), (1, .int a1), (2, .int a2)]) [0, 1, 2] rfl h) (by
    intro s0 σ h
    refine j_callVI (As := [.int s0]) (rest := []) C 0 (c_X5_refusal h) (cwV 1 C.2.2.2.2.2.1 gX5_stool_X5_refusal rfl rfl rfl hdX5_refusal ⟨Nat.le_of_ble_eq_true rfl, Nat.le_of_ble_eq_true rfl⟩) rfl rfl rfl rfl (Nat.le_of_ble_eq_true rfl) dX5_stool_20 (fun r2 σ1 h => ?_)
    refine j_istore_n (lv' := [(3, .int r2), (0, .ref (eA E 0)), (1, .int a1), (2, .int a2)]) C 3 dX5_stool_23 rfl (by decide) rfl ?_
    refine j_iload_n C 3 dX5_stool_24 rfl 0 rfl ?_
    refine j_if_eq C 30 dX5_stool_25 (by decide) (fun c3 => ?_) (fun c3 => ?_)
    · replace h := h.1 c3
      refine j_aload_n C 0 dX5_stool_30 rfl 1 rfl ?_
      refine j_getR C 19 0 2 rfl rfl rfl in_X5_stool_X5 (by decide) (by decide +kernel) dX5_stool_31 ?_
      refine j_aload_n C 0 dX5_stool_34 rfl 1 rfl ?_
      refine j_getR C 12 0 1 rfl rfl rfl in_X5_stool_X5 (by decide) (by decide +kernel) dX5_stool_35 ?_
      refine j_callVV (As := [.ref (eA E 12)]) (rest := []) C 19 (c_X0_copyFrom (rfl) (rfl) h) (cwV 1 C.2.2.2.2.2.1 gX5_stool_X0_copyFrom rfl rfl rfl hdX0_copyFrom ⟨Nat.le_of_ble_eq_true rfl, Nat.le_of_ble_eq_true rfl⟩) (shp_dyn (rfl)) rfl rfl rfl (Nat.le_of_ble_eq_true rfl) dX5_stool_38 (fun σ4 h => ?_)
      refine j_aload_n C 0 dX5_stool_41 rfl 1 rfl ?_
      refine j_getR C 19 0 2 rfl rfl rfl in_X5_stool_X5 (by decide) (by decide +kernel) dX5_stool_42 ?_
      refine j_iload_n C 1 dX5_stool_45 rfl 2 rfl ?_
      refine j_callVI (As := [.int a1]) (rest := []) C 19 (c_X0_fallsIn (rfl) h) (cwV 1 C.2.2.2.2.2.1 gX5_stool_X0_fallsIn rfl rfl rfl hdX0_fallsIn ⟨Nat.le_of_ble_eq_true rfl, Nat.le_of_ble_eq_true rfl⟩) (shp_dyn (rfl)) rfl rfl rfl (Nat.le_of_ble_eq_true rfl) dX5_stool_46 (fun r6 σ5 h => ?_)
      refine j_istore (lv' := [(4, .int r6), (3, .int r2), (0, .ref (eA E 0)), (1, .int a1), (2, .int a2)]) C 4 dX5_stool_49 (by decide) rfl ?_
      refine j_bipush (v := (-4 : Int32)) C dX5_stool_51 (by decide) ?_
      refine j_istore (lv' := [(5, .int (-4 : Int32)), (4, .int r6), (3, .int r2), (0, .ref (eA E 0)), (1, .int a1), (2, .int a2)]) C 5 dX5_stool_53 (by decide) rfl ?_
      refine j_iconst (v := (0 : Int32)) C dX5_stool_55 (by decide) ?_
      refine j_istore (lv' := [(6, .int (0 : Int32)), (5, .int (-4 : Int32)), (4, .int r6), (3, .int r2), (0, .ref (eA E 0)), (1, .int a1), (2, .int a2)]) C 6 dX5_stool_56 (by decide) rfl ?_
      exact j_sub (lv' := [(0, .ref (eA E 0)), (1, .int a1), (2, .int a2), (4, .int r6), (5, .int (-4 : Int32)), (6, .int (0 : Int32))]) [4, 5, 6, 2, 1, 0] rfl h
    · replace h := h.2 c3
      refine j_iload_n C 3 dX5_stool_28 rfl 0 rfl ?_
      exact j_iret C dX5_stool_29 h) (by
    intro x4 x5 x6 σ h
    refine j_iload C 6 dX5_stool_58 5 rfl ?_
    refine j_aload_n C 0 dX5_stool_60 rfl 0 rfl ?_
    refine j_getR C 12 0 1 rfl rfl rfl in_X5_stool_X5 (by decide) (by decide +kernel) dX5_stool_61 ?_
    refine j_getI C 12 2 (shp_dyn (rfl)) rfl rfl in_X5_stool_X0 (by decide) (by decide +kernel) dX5_stool_64 ?_
    refine j_icmp_ge C 125 dX5_stool_67 (by decide) (fun c7 => ?_) (fun c7 => ?_)
    · replace h := h.1 c7
      refine j_iload_n C 2 dX5_stool_125 rfl 2 rfl ?_
      refine j_iload C 5 dX5_stool_126 4 rfl ?_
      refine j_iload C 4 dX5_stool_128 3 rfl ?_
      refine j_callSI (As := [.int a2, .int x5, .int x4]) (rest := []) C (c_X5_whichOrMuch h) (va_cwS 3 C.2.2.2.2.2.1 gX5_stool_X5_whichOrMuch rfl rfl rfl hdX5_whichOrMuch.2 ⟨Nat.le_of_ble_eq_true rfl, Nat.le_of_ble_eq_true rfl⟩) rfl rfl (Nat.le_of_ble_eq_true rfl) dX5_stool_130 (fun r9 σ8 h => ?_)
      exact j_iret C dX5_stool_133 h
    · replace h := h.2 c7
      refine j_aload_n C 0 dX5_stool_70 rfl 0 rfl ?_
      refine j_getR C 19 0 2 rfl rfl rfl in_X5_stool_X5 (by decide) (by decide +kernel) dX5_stool_71 ?_
      refine j_aload_n C 0 dX5_stool_74 rfl 0 rfl ?_
      refine j_getR C 12 0 1 rfl rfl rfl in_X5_stool_X5 (by decide) (by decide +kernel) dX5_stool_75 ?_
      refine j_callVV (As := [.ref (eA E 12)]) (rest := []) C 19 (c_X0_copyFrom (rfl) (rfl) h) (cwV 1 C.2.2.2.2.2.1 gX5_stool_X0_copyFrom rfl rfl rfl hdX0_copyFrom ⟨Nat.le_of_ble_eq_true rfl, Nat.le_of_ble_eq_true rfl⟩) (shp_dyn (rfl)) rfl rfl rfl (Nat.le_of_ble_eq_true rfl) dX5_stool_78 (fun σ10 h => ?_)
      refine j_aload_n C 0 dX5_stool_81 rfl 0 rfl ?_
      refine j_getR C 19 0 2 rfl rfl rfl in_X5_stool_X5 (by decide) (by decide +kernel) dX5_stool_82 ?_
      refine j_getR C (19 + 1) 19 0 (shp_dyn (rfl)) rfl rfl in_X5_stool_X0 (by decide) (by decide +kernel) dX5_stool_85 ?_
      refine j_iconst (v := (0 : Int32)) C dX5_stool_88 (by decide) ?_
      refine j_aald C (19 + 1) 5 (shp_dynT (rfl)) rfl rfl dX5_stool_89 (in_lit rfl) ?_
      refine j_iload C 6 dX5_stool_90 5 rfl ?_
      refine j_iconst (v := (3 : Int32)) C dX5_stool_92 (by decide) ?_
      refine j_iast C (19 + 2 + 1 * ((0 : Int32)).toNatClampNeg) (shp_dynR (rfl) (in_lit rfl)) dX5_stool_93 h.1 ?_
      replace h := h.2
      refine j_mem (fun σ12 eσ12 => ?_)
      replace h := h σ12 eσ12
      refine j_aload_n C 0 dX5_stool_94 rfl 0 rfl ?_
      refine j_getR C 19 0 2 rfl rfl rfl in_X5_stool_X5 (by decide) (by decide +kernel) dX5_stool_95 ?_
      refine j_iload_n C 1 dX5_stool_98 rfl 1 rfl ?_
      refine j_callVI (As := [.int a1]) (rest := []) C 19 (c_X0_fallsIn (rfl) h) (cwV 1 C.2.2.2.2.2.1 gX5_stool_X0_fallsIn rfl rfl rfl hdX0_fallsIn ⟨Nat.le_of_ble_eq_true rfl, Nat.le_of_ble_eq_true rfl⟩) (shp_dyn (rfl)) rfl rfl rfl (Nat.le_of_ble_eq_true rfl) dX5_stool_99 (fun r14 σ13 h => ?_)
      refine j_istore (lv' := [(7, .int r14), (0, .ref (eA E 0)), (1, .int a1), (2, .int a2), (4, .int x4), (5, .int x5), (6, .int x6)]) C 7 dX5_stool_102 (by decide) rfl ?_
      refine j_iload C 7 dX5_stool_104 0 rfl ?_
      refine j_iload C 4 dX5_stool_106 4 rfl ?_
      refine j_icmp_ge C 119 dX5_stool_108 (by decide) (fun c15 => ?_) (fun c15 => ?_)
      · replace h := h.1 c15
        exact j_sub (lv' := [(0, .ref (eA E 0)), (1, .int a1), (2, .int a2), (4, .int x4), (5, .int x5), (6, .int x6)]) [1, 2, 3, 4, 5, 6] rfl h
      · replace h := h.2 c15
        refine j_iload C 7 dX5_stool_111 0 rfl ?_
        refine j_istore (lv' := [(4, .int r14), (7, .int r14), (0, .ref (eA E 0)), (1, .int a1), (2, .int a2), (5, .int x5), (6, .int x6)]) C 4 dX5_stool_113 (by decide) rfl ?_
        refine j_iload C 6 dX5_stool_115 6 rfl ?_
        refine j_istore (lv' := [(5, .int x6), (4, .int r14), (7, .int r14), (0, .ref (eA E 0)), (1, .int a1), (2, .int a2), (6, .int x6)]) C 5 dX5_stool_117 (by decide) rfl ?_
        exact j_sub (lv' := [(0, .ref (eA E 0)), (1, .int a1), (2, .int a2), (4, .int r14), (5, .int x6), (6, .int x6)]) [3, 4, 5, 1, 0, 6] rfl h) (by
    intro x4 x5 x6 σ h
    obtain ⟨v16, ev16⟩ : ∃ y : Int32, y = x6 + (1 : Int32) := ⟨_, rfl⟩
    replace h := h v16 ev16
    refine j_iinc (v := v16) (lv' := [(6, .int v16), (0, .ref (eA E 0)), (1, .int a1), (2, .int a2), (4, .int x4), (5, .int x5)]) C 6 dX5_stool_119 5 rfl (by rw [ev16]; rfl) (by decide) rfl ?_
    refine j_goto C 58 dX5_stool_122 (by decide) ?_
    exact j_sub (lv' := [(0, .ref (eA E 0)), (1, .int a1), (2, .int a2), (4, .int x4), (5, .int x5), (6, .int v16)]) [1, 2, 3, 4, 5, 0] rfl h)
  refine j_aload_n C 0 dX5_stool_0 rfl 0 rfl ?_
  refine j_iload_n C 1 dX5_stool_1 rfl 1 rfl ?_
  refine j_callSI (As := [.int a1]) (rest := [.ref (eA E 0)]) C (c_X5_isAhead h) (va_cwS 1 C.2.2.2.2.2.1 gX5_stool_X5_isAhead rfl rfl rfl hdX5_isAhead.2 ⟨Nat.le_of_ble_eq_true rfl, Nat.le_of_ble_eq_true rfl⟩) rfl rfl (Nat.le_of_ble_eq_true rfl) dX5_stool_2 (fun r18 σ17 h => ?_)
  refine j_if_eq C 19 dX5_stool_5 (by decide) (fun c19 => ?_) (fun c19 => ?_)
  · replace h := h.1 c19
    exact j_sub (lv' := [(0, .ref (eA E 0)), (1, .int a1), (2, .int a2)]) [0, 1, 2] rfl h
  · replace h := h.2 c19
    refine j_iload_n C 2 dX5_stool_8 rfl 2 rfl ?_
    refine j_callSI (As := [.int a2]) (rest := [.ref (eA E 0)]) C (c_X5_isWhichOrMuch h) (va_cwS 1 C.2.2.2.2.2.1 gX5_stool_X5_isWhichOrMuch rfl rfl rfl hdX5_isWhichOrMuch.2 ⟨Nat.le_of_ble_eq_true rfl, Nat.le_of_ble_eq_true rfl⟩) rfl rfl (Nat.le_of_ble_eq_true rfl) dX5_stool_9 (fun r21 σ20 h => ?_)
    refine j_if_eq C 19 dX5_stool_12 (by decide) (fun c22 => ?_) (fun c22 => ?_)
    · replace h := h.1 c22
      exact j_sub (lv' := [(0, .ref (eA E 0)), (1, .int a1), (2, .int a2)]) [0, 1, 2] rfl h
    · replace h := h.2 c22
      refine j_iconst (v := (1 : Int32)) C dX5_stool_15 (by decide) ?_
      refine j_goto C 20 dX5_stool_16 (by decide) ?_
      exact j_sub (lv' := [(0, .ref (eA E 0)), (1, .int a1), (2, .int a2)]) [0, 1, 2] rfl h
def wp_X5_term (a1 : Int32) (a2 : Int32) (a3 : Int32) (σ : Mem) (Q : Int32 → Mem → Prop) : Prop :=
  ∀ (P27 : Mem → Prop) (P28 : Int32 → Mem → Prop) (P51 : Int32 → Int32 → Int32 → Mem → Prop) (P107 : Int32 → Int32 → Int32 → Mem → Prop),
  (∀ (σ : Mem), (P28 (0 : Int32) σ) → P27 σ) →
  (∀ (s0 : Int32) (σ : Mem), (wp_X5_refusal s0 σ (fun r2 σ1 => (r2 = 0 → P51 (-1 : Int32) (-4 : Int32) (1 : Int32) σ1) ∧ (¬ r2 = 0 → Q r2 σ1))) → P28 s0 σ) →
  (∀ (x5 : Int32) (x6 : Int32) (x7 : Int32) (σ : Mem), (((30 : Int32) < x7 → wp_X5_whichOrMuch a3 x6 x5 σ (fun r6 σ5 => Q r6 σ5)) ∧ (¬ (30 : Int32) < x7 → wp_X0_copyFrom 19 12 σ (fun σ7 => vp_in a1 6 ∧ (∀ σ9 : Mem, σ9 = st1 σ7 (19 + 2 + 1 * ((3 : Int32)).toNatClampNeg) (a1).toNatClampNeg x7 → wp_X0_worksBehind 19 a2 σ9 (fun r11 σ10 => (r11 ≤ x5 → P107 x5 x6 x7 σ10) ∧ (¬ r11 ≤ x5 → P107 r11 x7 x7 σ10)))))) → P51 x5 x6 x7 σ) →
  (∀ (x5 : Int32) (x6 : Int32) (x7 : Int32) (σ : Mem), (∀ v13 : Int32, v13 = x7 + (1 : Int32) → P51 x5 x6 v13 σ) → P107 x5 x6 x7 σ) →
  wp_X5_isHeir a1 σ (fun r15 σ14 => (r15 = 0 → P27 σ14) ∧ (¬ r15 = 0 → wp_X5_isAhead a2 σ14 (fun r18 σ17 => (r18 = 0 → P27 σ17) ∧ (¬ r18 = 0 → wp_X5_isWhichOrMuch a3 σ17 (fun r21 σ20 => (r21 = 0 → P27 σ20) ∧ (¬ r21 = 0 → P28 (1 : Int32) σ20))))))
theorem in_X5_term_X0 : ∀ w ∈ wsX00, w ∈ wsX5_term := fun _ h => List.mem_cons_of_mem _ (List.mem_append_right _ h)
theorem in_X5_term_X5 : ∀ w ∈ wsX50, w ∈ wsX5_term := fun _ h => List.mem_cons_of_mem _ (List.mem_append_left _ (List.mem_append_right _ h))
def rmX5_term : Room := { frames := 6, cells := 0, slots := 0, locals := 129 }
theorem hdX5_term : yX5_term.cls = RX5 ∧ yX5_term.cls ≠ "java/lang/invoke/MethodHandle" ∧ yX5_term.cls ≠ "java/lang/invoke/VarHandle" ∧ (parseMethodDescriptor yX5_term.desc).map (fun d => d.parameters.length) = some 3 := by decide +kernel
set_option maxHeartbeats 4000000 in
set_option maxRecDepth 100000 in
theorem c_X5_term {l : Launch} {E : EE} {a1 : Int32} {a2 : Int32} {a3 : Int32}  {σ : Mem} {Q : Int32 → Mem → Prop} (h : wp_X5_term a1 a2 a3 σ Q) : CtI l yX5_term wsX5_term rmX5_term E [.ref (eA E 0), .int a1, .int a2, .int a3] σ Q := by
  refine metI (cc := cX5_term) (nL := 9) (ret := (some .int)) (lv := [(0, .ref (eA E 0)), (1, .int a1), (2, .int a2), (3, .int a3)]) (by decide) rfl (Nat.le_of_ble_eq_true rfl) rfl ?_
  intro p e s m args below meth c C
  unfold wp_X5_term at h
  replace h := h (fun (σ : Mem) => J E p l e rmX5_term s m args below meth c (QI E below args s Q) 9 27 [(0, .ref (eA E 0)), (1, .int a1), (2, .int a2), (3, .int a3)] [.ref (eA E 0)] σ) (fun (s0 : Int32) (σ : Mem) => J E p l e rmX5_term s m args below meth c (QI E below args s Q) 9 28 [(0, .ref (eA E 0)), (1, .int a1), (2, .int a2), (3, .int a3)] [.int s0, .ref (eA E 0)] σ) (fun (x5 : Int32) (x6 : Int32) (x7 : Int32) (σ : Mem) => J E p l e rmX5_term s m args below meth c (QI E below args s Q) 9 51 [(0, .ref (eA E 0)), (1, .int a1), (2, .int a2), (3, .int a3), (5, .int x5), (6, .int x6), (7, .int x7)] [] σ) (fun (x5 : Int32) (x6 : Int32) (x7 : Int32) (σ : Mem) => J E p l e rmX5_term s m args below meth c (QI E below args s Q) 9 107 [(0, .ref (eA E 0)), (1, .int a1), (2, .int a2), (3, .int a3), (5, .int x5), (6, .int x6), (7, .int x7)] [] σ) (by
    intro σ h
    refine j_iconst (v := (0 : Int32)) C dX5_term_27 (by decide) ?_
    exact j_sub (lv' := [(0, .ref (eA E 0)), (1, .int a1), (2, .int a2), (3, .int a3)]) [0, 1, 2, 3] rfl h) (by
    intro s0 σ h
    refine j_callVI (As := [.int s0]) (rest := []) C 0 (c_X5_refusal h) (cwV 1 C.2.2.2.2.2.1 gX5_term_X5_refusal rfl rfl rfl hdX5_refusal ⟨Nat.le_of_ble_eq_true rfl, Nat.le_of_ble_eq_true rfl⟩) rfl rfl rfl rfl (Nat.le_of_ble_eq_true rfl) dX5_term_28 (fun r2 σ1 h => ?_)
    refine j_istore (lv' := [(4, .int r2), (0, .ref (eA E 0)), (1, .int a1), (2, .int a2), (3, .int a3)]) C 4 dX5_term_31 (by decide) rfl ?_
    refine j_iload C 4 dX5_term_33 0 rfl ?_
    refine j_if_eq C 41 dX5_term_35 (by decide) (fun c3 => ?_) (fun c3 => ?_)
    · replace h := h.1 c3
      refine j_iconst (v := (-1 : Int32)) C dX5_term_41 (by decide) ?_
      refine j_istore (lv' := [(5, .int (-1 : Int32)), (4, .int r2), (0, .ref (eA E 0)), (1, .int a1), (2, .int a2), (3, .int a3)]) C 5 dX5_term_42 (by decide) rfl ?_
      refine j_bipush (v := (-4 : Int32)) C dX5_term_44 (by decide) ?_
      refine j_istore (lv' := [(6, .int (-4 : Int32)), (5, .int (-1 : Int32)), (4, .int r2), (0, .ref (eA E 0)), (1, .int a1), (2, .int a2), (3, .int a3)]) C 6 dX5_term_46 (by decide) rfl ?_
      refine j_iconst (v := (1 : Int32)) C dX5_term_48 (by decide) ?_
      refine j_istore (lv' := [(7, .int (1 : Int32)), (6, .int (-4 : Int32)), (5, .int (-1 : Int32)), (4, .int r2), (0, .ref (eA E 0)), (1, .int a1), (2, .int a2), (3, .int a3)]) C 7 dX5_term_49 (by decide) rfl ?_
      exact j_sub (lv' := [(0, .ref (eA E 0)), (1, .int a1), (2, .int a2), (3, .int a3), (5, .int (-1 : Int32)), (6, .int (-4 : Int32)), (7, .int (1 : Int32))]) [4, 5, 6, 7, 2, 1, 0] rfl h
    · replace h := h.2 c3
      refine j_iload C 4 dX5_term_38 0 rfl ?_
      exact j_iret C dX5_term_40 h) (by
    intro x5 x6 x7 σ h
    refine j_iload C 7 dX5_term_51 6 rfl ?_
    refine j_bipush (v := (30 : Int32)) C dX5_term_53 (by decide) ?_
    refine j_icmp_gt C 113 dX5_term_55 (by decide) (fun c4 => ?_) (fun c4 => ?_)
    · replace h := h.1 c4
      refine j_iload_n C 3 dX5_term_113 rfl 3 rfl ?_
      refine j_iload C 6 dX5_term_114 5 rfl ?_
      refine j_iload C 5 dX5_term_116 4 rfl ?_
      refine j_callSI (As := [.int a3, .int x6, .int x5]) (rest := []) C (c_X5_whichOrMuch h) (va_cwS 3 C.2.2.2.2.2.1 gX5_term_X5_whichOrMuch rfl rfl rfl hdX5_whichOrMuch.2 ⟨Nat.le_of_ble_eq_true rfl, Nat.le_of_ble_eq_true rfl⟩) rfl rfl (Nat.le_of_ble_eq_true rfl) dX5_term_118 (fun r6 σ5 h => ?_)
      exact j_iret C dX5_term_121 h
    · replace h := h.2 c4
      refine j_aload_n C 0 dX5_term_58 rfl 0 rfl ?_
      refine j_getR C 19 0 2 rfl rfl rfl in_X5_term_X5 (by decide) (by decide +kernel) dX5_term_59 ?_
      refine j_aload_n C 0 dX5_term_62 rfl 0 rfl ?_
      refine j_getR C 12 0 1 rfl rfl rfl in_X5_term_X5 (by decide) (by decide +kernel) dX5_term_63 ?_
      refine j_callVV (As := [.ref (eA E 12)]) (rest := []) C 19 (c_X0_copyFrom (rfl) (rfl) h) (cwV 1 C.2.2.2.2.2.1 gX5_term_X0_copyFrom rfl rfl rfl hdX0_copyFrom ⟨Nat.le_of_ble_eq_true rfl, Nat.le_of_ble_eq_true rfl⟩) (shp_dyn (rfl)) rfl rfl rfl (Nat.le_of_ble_eq_true rfl) dX5_term_66 (fun σ7 h => ?_)
      refine j_aload_n C 0 dX5_term_69 rfl 0 rfl ?_
      refine j_getR C 19 0 2 rfl rfl rfl in_X5_term_X5 (by decide) (by decide +kernel) dX5_term_70 ?_
      refine j_getR C (19 + 1) 19 0 (shp_dyn (rfl)) rfl rfl in_X5_term_X0 (by decide) (by decide +kernel) dX5_term_73 ?_
      refine j_iconst (v := (3 : Int32)) C dX5_term_76 (by decide) ?_
      refine j_aald C (19 + 1) 5 (shp_dynT (rfl)) rfl rfl dX5_term_77 (in_lit rfl) ?_
      refine j_iload_n C 1 dX5_term_78 rfl 1 rfl ?_
      refine j_iload C 7 dX5_term_79 6 rfl ?_
      refine j_iast C (19 + 2 + 1 * ((3 : Int32)).toNatClampNeg) (shp_dynR (rfl) (in_lit rfl)) dX5_term_81 h.1 ?_
      replace h := h.2
      refine j_mem (fun σ9 eσ9 => ?_)
      replace h := h σ9 eσ9
      refine j_aload_n C 0 dX5_term_82 rfl 0 rfl ?_
      refine j_getR C 19 0 2 rfl rfl rfl in_X5_term_X5 (by decide) (by decide +kernel) dX5_term_83 ?_
      refine j_iload_n C 2 dX5_term_86 rfl 2 rfl ?_
      refine j_callVI (As := [.int a2]) (rest := []) C 19 (c_X0_worksBehind (rfl) h) (cwV 1 C.2.2.2.2.2.1 gX5_term_X0_worksBehind rfl rfl rfl hdX0_worksBehind ⟨Nat.le_of_ble_eq_true rfl, Nat.le_of_ble_eq_true rfl⟩) (shp_dyn (rfl)) rfl rfl rfl (Nat.le_of_ble_eq_true rfl) dX5_term_87 (fun r11 σ10 h => ?_)
      refine j_istore (lv' := [(8, .int r11), (0, .ref (eA E 0)), (1, .int a1), (2, .int a2), (3, .int a3), (5, .int x5), (6, .int x6), (7, .int x7)]) C 8 dX5_term_90 (by decide) rfl ?_
      refine j_iload C 8 dX5_term_92 0 rfl ?_
      refine j_iload C 5 dX5_term_94 5 rfl ?_
      refine j_icmp_le C 107 dX5_term_96 (by decide) (fun c12 => ?_) (fun c12 => ?_)
      · replace h := h.1 c12
        exact j_sub (lv' := [(0, .ref (eA E 0)), (1, .int a1), (2, .int a2), (3, .int a3), (5, .int x5), (6, .int x6), (7, .int x7)]) [1, 2, 3, 4, 5, 6, 7] rfl h
      · replace h := h.2 c12
        refine j_iload C 8 dX5_term_99 0 rfl ?_
        refine j_istore (lv' := [(5, .int r11), (8, .int r11), (0, .ref (eA E 0)), (1, .int a1), (2, .int a2), (3, .int a3), (6, .int x6), (7, .int x7)]) C 5 dX5_term_101 (by decide) rfl ?_
        refine j_iload C 7 dX5_term_103 7 rfl ?_
        refine j_istore (lv' := [(6, .int x7), (5, .int r11), (8, .int r11), (0, .ref (eA E 0)), (1, .int a1), (2, .int a2), (3, .int a3), (7, .int x7)]) C 6 dX5_term_105 (by decide) rfl ?_
        exact j_sub (lv' := [(0, .ref (eA E 0)), (1, .int a1), (2, .int a2), (3, .int a3), (5, .int r11), (6, .int x7), (7, .int x7)]) [3, 4, 5, 6, 1, 0, 7] rfl h) (by
    intro x5 x6 x7 σ h
    obtain ⟨v13, ev13⟩ : ∃ y : Int32, y = x7 + (1 : Int32) := ⟨_, rfl⟩
    replace h := h v13 ev13
    refine j_iinc (v := v13) (lv' := [(7, .int v13), (0, .ref (eA E 0)), (1, .int a1), (2, .int a2), (3, .int a3), (5, .int x5), (6, .int x6)]) C 7 dX5_term_107 6 rfl (by rw [ev13]; rfl) (by decide) rfl ?_
    refine j_goto C 51 dX5_term_110 (by decide) ?_
    exact j_sub (lv' := [(0, .ref (eA E 0)), (1, .int a1), (2, .int a2), (3, .int a3), (5, .int x5), (6, .int x6), (7, .int v13)]) [1, 2, 3, 4, 5, 6, 0] rfl h)
  refine j_aload_n C 0 dX5_term_0 rfl 0 rfl ?_
  refine j_aload_n C 0 dX5_term_1 rfl 0 rfl ?_
  refine j_iload_n C 1 dX5_term_2 rfl 1 rfl ?_
  refine j_callVI (As := [.int a1]) (rest := [.ref (eA E 0)]) C 0 (c_X5_isHeir h) (cwV 1 C.2.2.2.2.2.1 gX5_term_X5_isHeir rfl rfl rfl hdX5_isHeir ⟨Nat.le_of_ble_eq_true rfl, Nat.le_of_ble_eq_true rfl⟩) rfl rfl rfl rfl (Nat.le_of_ble_eq_true rfl) dX5_term_3 (fun r15 σ14 h => ?_)
  refine j_if_eq C 27 dX5_term_6 (by decide) (fun c16 => ?_) (fun c16 => ?_)
  · replace h := h.1 c16
    exact j_sub (lv' := [(0, .ref (eA E 0)), (1, .int a1), (2, .int a2), (3, .int a3)]) [0, 1, 2, 3] rfl h
  · replace h := h.2 c16
    refine j_iload_n C 2 dX5_term_9 rfl 2 rfl ?_
    refine j_callSI (As := [.int a2]) (rest := [.ref (eA E 0)]) C (c_X5_isAhead h) (va_cwS 1 C.2.2.2.2.2.1 gX5_term_X5_isAhead rfl rfl rfl hdX5_isAhead.2 ⟨Nat.le_of_ble_eq_true rfl, Nat.le_of_ble_eq_true rfl⟩) rfl rfl (Nat.le_of_ble_eq_true rfl) dX5_term_10 (fun r18 σ17 h => ?_)
    refine j_if_eq C 27 dX5_term_13 (by decide) (fun c19 => ?_) (fun c19 => ?_)
    · replace h := h.1 c19
      exact j_sub (lv' := [(0, .ref (eA E 0)), (1, .int a1), (2, .int a2), (3, .int a3)]) [0, 1, 2, 3] rfl h
    · replace h := h.2 c19
      refine j_iload_n C 3 dX5_term_16 rfl 3 rfl ?_
      refine j_callSI (As := [.int a3]) (rest := [.ref (eA E 0)]) C (c_X5_isWhichOrMuch h) (va_cwS 1 C.2.2.2.2.2.1 gX5_term_X5_isWhichOrMuch rfl rfl rfl hdX5_isWhichOrMuch.2 ⟨Nat.le_of_ble_eq_true rfl, Nat.le_of_ble_eq_true rfl⟩) rfl rfl (Nat.le_of_ble_eq_true rfl) dX5_term_17 (fun r21 σ20 h => ?_)
      refine j_if_eq C 27 dX5_term_20 (by decide) (fun c22 => ?_) (fun c22 => ?_)
      · replace h := h.1 c22
        exact j_sub (lv' := [(0, .ref (eA E 0)), (1, .int a1), (2, .int a2), (3, .int a3)]) [0, 1, 2, 3] rfl h
      · replace h := h.2 c22
        refine j_iconst (v := (1 : Int32)) C dX5_term_23 (by decide) ?_
        refine j_goto C 28 dX5_term_24 (by decide) ?_
        exact j_sub (lv' := [(0, .ref (eA E 0)), (1, .int a1), (2, .int a2), (3, .int a3)]) [0, 1, 2, 3] rfl h
def wp_X5_ache (a1 : Int32) (a2 : Int32) (σ : Mem) (Q : Int32 → Mem → Prop) : Prop :=
  ∀ (P19 : Mem → Prop) (P20 : Int32 → Mem → Prop) (P40 : Int32 → Int32 → Int32 → Mem → Prop) (P92 : Int32 → Int32 → Int32 → Mem → Prop),
  (∀ (σ : Mem), (P20 (0 : Int32) σ) → P19 σ) →
  (∀ (s0 : Int32) (σ : Mem), (wp_X5_refusal s0 σ (fun r2 σ1 => (r2 = 0 → P40 (-1 : Int32) (-4 : Int32) (0 : Int32) σ1) ∧ (¬ r2 = 0 → Q r2 σ1))) → P20 s0 σ) →
  (∀ (x4 : Int32) (x5 : Int32) (x6 : Int32) (σ : Mem), (((9 : Int32) < x6 → wp_X5_whichOrMuch a2 x5 x4 σ (fun r6 σ5 => Q r6 σ5)) ∧ (¬ (9 : Int32) < x6 → wp_X0_copyFrom 19 12 σ (fun σ7 => ∀ σ8 : Mem, σ8 = st1 σ7 19 3 x6 → wp_X0_worksBehind 19 a1 σ8 (fun r10 σ9 => (r10 ≤ x4 → P92 x4 x5 x6 σ9) ∧ (¬ r10 ≤ x4 → P92 r10 x6 x6 σ9))))) → P40 x4 x5 x6 σ) →
  (∀ (x4 : Int32) (x5 : Int32) (x6 : Int32) (σ : Mem), (∀ v12 : Int32, v12 = x6 + (1 : Int32) → P40 x4 x5 v12 σ) → P92 x4 x5 x6 σ) →
  wp_X5_isAhead a1 σ (fun r14 σ13 => (r14 = 0 → P19 σ13) ∧ (¬ r14 = 0 → wp_X5_isWhichOrMuch a2 σ13 (fun r17 σ16 => (r17 = 0 → P19 σ16) ∧ (¬ r17 = 0 → P20 (1 : Int32) σ16))))
theorem in_X5_ache_X0 : ∀ w ∈ wsX00, w ∈ wsX5_ache := fun _ h => List.mem_cons_of_mem _ (List.mem_append_right _ h)
theorem in_X5_ache_X5 : ∀ w ∈ wsX50, w ∈ wsX5_ache := fun _ h => List.mem_cons_of_mem _ (List.mem_append_left _ (List.mem_append_right _ h))
def rmX5_ache : Room := { frames := 6, cells := 0, slots := 0, locals := 129 }
theorem hdX5_ache : yX5_ache.cls = RX5 ∧ yX5_ache.cls ≠ "java/lang/invoke/MethodHandle" ∧ yX5_ache.cls ≠ "java/lang/invoke/VarHandle" ∧ (parseMethodDescriptor yX5_ache.desc).map (fun d => d.parameters.length) = some 2 := by decide +kernel
set_option maxHeartbeats 4000000 in
set_option maxRecDepth 100000 in
theorem c_X5_ache {l : Launch} {E : EE} {a1 : Int32} {a2 : Int32}  {σ : Mem} {Q : Int32 → Mem → Prop} (h : wp_X5_ache a1 a2 σ Q) : CtI l yX5_ache wsX5_ache rmX5_ache E [.ref (eA E 0), .int a1, .int a2] σ Q := by
  refine metI (cc := cX5_ache) (nL := 8) (ret := (some .int)) (lv := [(0, .ref (eA E 0)), (1, .int a1), (2, .int a2)]) (by decide) rfl (Nat.le_of_ble_eq_true rfl) rfl ?_
  intro p e s m args below meth c C
  unfold wp_X5_ache at h
  replace h := h (fun (σ : Mem) => J E p l e rmX5_ache s m args below meth c (QI E below args s Q) 8 19 [(0, .ref (eA E 0)), (1, .int a1), (2, .int a2)] [.ref (eA E 0)] σ) (fun (s0 : Int32) (σ : Mem) => J E p l e rmX5_ache s m args below meth c (QI E below args s Q) 8 20 [(0, .ref (eA E 0)), (1, .int a1), (2, .int a2)] [.int s0, .ref (eA E 0)] σ) (fun (x4 : Int32) (x5 : Int32) (x6 : Int32) (σ : Mem) => J E p l e rmX5_ache s m args below meth c (QI E below args s Q) 8 40 [(0, .ref (eA E 0)), (1, .int a1), (2, .int a2), (4, .int x4), (5, .int x5), (6, .int x6)] [] σ) (fun (x4 : Int32) (x5 : Int32) (x6 : Int32) (σ : Mem) => J E p l e rmX5_ache s m args below meth c (QI E below args s Q) 8 92 [(0, .ref (eA E 0)), (1, .int a1), (2, .int a2), (4, .int x4), (5, .int x5), (6, .int x6)] [] σ) (by
    intro σ h
    refine j_iconst (v := (0 : Int32)) C dX5_ache_19 (by decide) ?_
    exact j_sub (lv' := [(0, .ref (eA E 0)), (1, .int a1), (2, .int a2)]) [0, 1, 2] rfl h) (by
    intro s0 σ h
    refine j_callVI (As := [.int s0]) (rest := []) C 0 (c_X5_refusal h) (cwV 1 C.2.2.2.2.2.1 gX5_ache_X5_refusal rfl rfl rfl hdX5_refusal ⟨Nat.le_of_ble_eq_true rfl, Nat.le_of_ble_eq_true rfl⟩) rfl rfl rfl rfl (Nat.le_of_ble_eq_true rfl) dX5_ache_20 (fun r2 σ1 h => ?_)
    refine j_istore_n (lv' := [(3, .int r2), (0, .ref (eA E 0)), (1, .int a1), (2, .int a2)]) C 3 dX5_ache_23 rfl (by decide) rfl ?_
    refine j_iload_n C 3 dX5_ache_24 rfl 0 rfl ?_
    refine j_if_eq C 30 dX5_ache_25 (by decide) (fun c3 => ?_) (fun c3 => ?_)
    · replace h := h.1 c3
      refine j_iconst (v := (-1 : Int32)) C dX5_ache_30 (by decide) ?_
      refine j_istore (lv' := [(4, .int (-1 : Int32)), (3, .int r2), (0, .ref (eA E 0)), (1, .int a1), (2, .int a2)]) C 4 dX5_ache_31 (by decide) rfl ?_
      refine j_bipush (v := (-4 : Int32)) C dX5_ache_33 (by decide) ?_
      refine j_istore (lv' := [(5, .int (-4 : Int32)), (4, .int (-1 : Int32)), (3, .int r2), (0, .ref (eA E 0)), (1, .int a1), (2, .int a2)]) C 5 dX5_ache_35 (by decide) rfl ?_
      refine j_iconst (v := (0 : Int32)) C dX5_ache_37 (by decide) ?_
      refine j_istore (lv' := [(6, .int (0 : Int32)), (5, .int (-4 : Int32)), (4, .int (-1 : Int32)), (3, .int r2), (0, .ref (eA E 0)), (1, .int a1), (2, .int a2)]) C 6 dX5_ache_38 (by decide) rfl ?_
      exact j_sub (lv' := [(0, .ref (eA E 0)), (1, .int a1), (2, .int a2), (4, .int (-1 : Int32)), (5, .int (-4 : Int32)), (6, .int (0 : Int32))]) [4, 5, 6, 2, 1, 0] rfl h
    · replace h := h.2 c3
      refine j_iload_n C 3 dX5_ache_28 rfl 0 rfl ?_
      exact j_iret C dX5_ache_29 h) (by
    intro x4 x5 x6 σ h
    refine j_iload C 6 dX5_ache_40 5 rfl ?_
    refine j_bipush (v := (9 : Int32)) C dX5_ache_42 (by decide) ?_
    refine j_icmp_gt C 98 dX5_ache_44 (by decide) (fun c4 => ?_) (fun c4 => ?_)
    · replace h := h.1 c4
      refine j_iload_n C 2 dX5_ache_98 rfl 2 rfl ?_
      refine j_iload C 5 dX5_ache_99 4 rfl ?_
      refine j_iload C 4 dX5_ache_101 3 rfl ?_
      refine j_callSI (As := [.int a2, .int x5, .int x4]) (rest := []) C (c_X5_whichOrMuch h) (va_cwS 3 C.2.2.2.2.2.1 gX5_ache_X5_whichOrMuch rfl rfl rfl hdX5_whichOrMuch.2 ⟨Nat.le_of_ble_eq_true rfl, Nat.le_of_ble_eq_true rfl⟩) rfl rfl (Nat.le_of_ble_eq_true rfl) dX5_ache_103 (fun r6 σ5 h => ?_)
      exact j_iret C dX5_ache_106 h
    · replace h := h.2 c4
      refine j_aload_n C 0 dX5_ache_47 rfl 0 rfl ?_
      refine j_getR C 19 0 2 rfl rfl rfl in_X5_ache_X5 (by decide) (by decide +kernel) dX5_ache_48 ?_
      refine j_aload_n C 0 dX5_ache_51 rfl 0 rfl ?_
      refine j_getR C 12 0 1 rfl rfl rfl in_X5_ache_X5 (by decide) (by decide +kernel) dX5_ache_52 ?_
      refine j_callVV (As := [.ref (eA E 12)]) (rest := []) C 19 (c_X0_copyFrom (rfl) (rfl) h) (cwV 1 C.2.2.2.2.2.1 gX5_ache_X0_copyFrom rfl rfl rfl hdX0_copyFrom ⟨Nat.le_of_ble_eq_true rfl, Nat.le_of_ble_eq_true rfl⟩) (shp_dyn (rfl)) rfl rfl rfl (Nat.le_of_ble_eq_true rfl) dX5_ache_55 (fun σ7 h => ?_)
      refine j_aload_n C 0 dX5_ache_58 rfl 0 rfl ?_
      refine j_getR C 19 0 2 rfl rfl rfl in_X5_ache_X5 (by decide) (by decide +kernel) dX5_ache_59 ?_
      refine j_iload C 6 dX5_ache_62 5 rfl ?_
      refine j_put C 19 3 (shp_dyn (rfl)) rfl rfl in_X5_ache_X0 tyX0 tyX0_ok nmX0 (by decide) (by decide +kernel) rfl rfl rfl rfl dX5_ache_64 ?_
      refine j_mem (fun σ8 eσ8 => ?_)
      replace h := h σ8 eσ8
      refine j_aload_n C 0 dX5_ache_67 rfl 0 rfl ?_
      refine j_getR C 19 0 2 rfl rfl rfl in_X5_ache_X5 (by decide) (by decide +kernel) dX5_ache_68 ?_
      refine j_iload_n C 1 dX5_ache_71 rfl 1 rfl ?_
      refine j_callVI (As := [.int a1]) (rest := []) C 19 (c_X0_worksBehind (rfl) h) (cwV 1 C.2.2.2.2.2.1 gX5_ache_X0_worksBehind rfl rfl rfl hdX0_worksBehind ⟨Nat.le_of_ble_eq_true rfl, Nat.le_of_ble_eq_true rfl⟩) (shp_dyn (rfl)) rfl rfl rfl (Nat.le_of_ble_eq_true rfl) dX5_ache_72 (fun r10 σ9 h => ?_)
      refine j_istore (lv' := [(7, .int r10), (0, .ref (eA E 0)), (1, .int a1), (2, .int a2), (4, .int x4), (5, .int x5), (6, .int x6)]) C 7 dX5_ache_75 (by decide) rfl ?_
      refine j_iload C 7 dX5_ache_77 0 rfl ?_
      refine j_iload C 4 dX5_ache_79 4 rfl ?_
      refine j_icmp_le C 92 dX5_ache_81 (by decide) (fun c11 => ?_) (fun c11 => ?_)
      · replace h := h.1 c11
        exact j_sub (lv' := [(0, .ref (eA E 0)), (1, .int a1), (2, .int a2), (4, .int x4), (5, .int x5), (6, .int x6)]) [1, 2, 3, 4, 5, 6] rfl h
      · replace h := h.2 c11
        refine j_iload C 7 dX5_ache_84 0 rfl ?_
        refine j_istore (lv' := [(4, .int r10), (7, .int r10), (0, .ref (eA E 0)), (1, .int a1), (2, .int a2), (5, .int x5), (6, .int x6)]) C 4 dX5_ache_86 (by decide) rfl ?_
        refine j_iload C 6 dX5_ache_88 6 rfl ?_
        refine j_istore (lv' := [(5, .int x6), (4, .int r10), (7, .int r10), (0, .ref (eA E 0)), (1, .int a1), (2, .int a2), (6, .int x6)]) C 5 dX5_ache_90 (by decide) rfl ?_
        exact j_sub (lv' := [(0, .ref (eA E 0)), (1, .int a1), (2, .int a2), (4, .int r10), (5, .int x6), (6, .int x6)]) [3, 4, 5, 1, 0, 6] rfl h) (by
    intro x4 x5 x6 σ h
    obtain ⟨v12, ev12⟩ : ∃ y : Int32, y = x6 + (1 : Int32) := ⟨_, rfl⟩
    replace h := h v12 ev12
    refine j_iinc (v := v12) (lv' := [(6, .int v12), (0, .ref (eA E 0)), (1, .int a1), (2, .int a2), (4, .int x4), (5, .int x5)]) C 6 dX5_ache_92 5 rfl (by rw [ev12]; rfl) (by decide) rfl ?_
    refine j_goto C 40 dX5_ache_95 (by decide) ?_
    exact j_sub (lv' := [(0, .ref (eA E 0)), (1, .int a1), (2, .int a2), (4, .int x4), (5, .int x5), (6, .int v12)]) [1, 2, 3, 4, 5, 0] rfl h)
  refine j_aload_n C 0 dX5_ache_0 rfl 0 rfl ?_
  refine j_iload_n C 1 dX5_ache_1 rfl 1 rfl ?_
  refine j_callSI (As := [.int a1]) (rest := [.ref (eA E 0)]) C (c_X5_isAhead h) (va_cwS 1 C.2.2.2.2.2.1 gX5_ache_X5_isAhead rfl rfl rfl hdX5_isAhead.2 ⟨Nat.le_of_ble_eq_true rfl, Nat.le_of_ble_eq_true rfl⟩) rfl rfl (Nat.le_of_ble_eq_true rfl) dX5_ache_2 (fun r14 σ13 h => ?_)
  refine j_if_eq C 19 dX5_ache_5 (by decide) (fun c15 => ?_) (fun c15 => ?_)
  · replace h := h.1 c15
    exact j_sub (lv' := [(0, .ref (eA E 0)), (1, .int a1), (2, .int a2)]) [0, 1, 2] rfl h
  · replace h := h.2 c15
    refine j_iload_n C 2 dX5_ache_8 rfl 2 rfl ?_
    refine j_callSI (As := [.int a2]) (rest := [.ref (eA E 0)]) C (c_X5_isWhichOrMuch h) (va_cwS 1 C.2.2.2.2.2.1 gX5_ache_X5_isWhichOrMuch rfl rfl rfl hdX5_isWhichOrMuch.2 ⟨Nat.le_of_ble_eq_true rfl, Nat.le_of_ble_eq_true rfl⟩) rfl rfl (Nat.le_of_ble_eq_true rfl) dX5_ache_9 (fun r17 σ16 h => ?_)
    refine j_if_eq C 19 dX5_ache_12 (by decide) (fun c18 => ?_) (fun c18 => ?_)
    · replace h := h.1 c18
      exact j_sub (lv' := [(0, .ref (eA E 0)), (1, .int a1), (2, .int a2)]) [0, 1, 2] rfl h
    · replace h := h.2 c18
      refine j_iconst (v := (1 : Int32)) C dX5_ache_15 (by decide) ?_
      refine j_goto C 20 dX5_ache_16 (by decide) ?_
      exact j_sub (lv' := [(0, .ref (eA E 0)), (1, .int a1), (2, .int a2)]) [0, 1, 2] rfl h
def wp_X5_countBuilding (a1 : Int32) (σ : Mem) (Q : Mem → Prop) : Prop :=
  ∀ (P13 : Int32 → Mem → Prop) (P34 : Int32 → Mem → Prop) (P79 : Int32 → Mem → Prop),
  (∀ (x2 : Int32) (σ : Mem), (((6 : Int32) ≤ x2 → P34 (0 : Int32) σ) ∧ (¬ (6 : Int32) ≤ x2 → vp_in x2 6 ∧ (∀ σ2 : Mem, σ2 = st1 σ 62 (x2).toNatClampNeg (0 : Int32) → ∀ v3 : Int32, v3 = x2 + (1 : Int32) → P13 v3 σ2))) → P13 x2 σ) →
  (∀ (x2 : Int32) (σ : Mem), ((a1 ≤ x2 → Q σ) ∧ (¬ a1 ≤ x2 → wp_X0_crown 19 (0 : Int32) σ (fun σ5 => ((σ5.1 19 11) = 0 → P79 x2 σ5) ∧ (¬ (σ5.1 19 11) = 0 → vp_in (σ5.1 19 8) 6 ∧ (vp_in (σ5.1 19 8) 6 ∧ (∀ σ7 : Mem, σ7 = st1 σ5 62 ((σ5.1 19 8)).toNatClampNeg ((σ5.1 62 ((σ5.1 19 8)).toNatClampNeg) + (σ5.1 19 9)) → P79 x2 σ7)))))) → P34 x2 σ) →
  (∀ (x2 : Int32) (σ : Mem), (∀ v8 : Int32, v8 = x2 + (1 : Int32) → P34 v8 σ) → P79 x2 σ) →
  wp_X0_copyFrom 19 12 σ (fun σ9 => P13 (0 : Int32) σ9)
theorem in_X5_countBuilding_X0 : ∀ w ∈ wsX00, w ∈ wsX5_countBuilding := fun _ h => List.mem_cons_of_mem _ (List.mem_append_right _ h)
theorem in_X5_countBuilding_X5 : ∀ w ∈ wsX50, w ∈ wsX5_countBuilding := fun _ h => List.mem_cons_of_mem _ (List.mem_append_left _ (List.mem_append_right _ h))
def rmX5_countBuilding : Room := { frames := 4, cells := 0, slots := 0, locals := 86 }
theorem hdX5_countBuilding : yX5_countBuilding.cls = RX5 ∧ yX5_countBuilding.cls ≠ "java/lang/invoke/MethodHandle" ∧ yX5_countBuilding.cls ≠ "java/lang/invoke/VarHandle" ∧ (parseMethodDescriptor yX5_countBuilding.desc).map (fun d => d.parameters.length) = some 1 := by decide +kernel
set_option maxHeartbeats 4000000 in
set_option maxRecDepth 100000 in
theorem c_X5_countBuilding {l : Launch} {E : EE} {a1 : Int32}  {σ : Mem} {Q : Mem → Prop} (h : wp_X5_countBuilding a1 σ Q) : CtV l yX5_countBuilding wsX5_countBuilding rmX5_countBuilding E [.ref (eA E 0), .int a1] σ Q := by
  refine metV (cc := cX5_countBuilding) (nL := 3) (ret := none) (lv := [(0, .ref (eA E 0)), (1, .int a1)]) (by decide) rfl (Nat.le_of_ble_eq_true rfl) rfl ?_
  intro p e s m args below meth c C
  unfold wp_X5_countBuilding at h
  replace h := h (fun (x2 : Int32) (σ : Mem) => J E p l e rmX5_countBuilding s m args below meth c (QV E below args s Q) 3 13 [(0, .ref (eA E 0)), (1, .int a1), (2, .int x2)] [] σ) (fun (x2 : Int32) (σ : Mem) => J E p l e rmX5_countBuilding s m args below meth c (QV E below args s Q) 3 34 [(0, .ref (eA E 0)), (1, .int a1), (2, .int x2)] [] σ) (fun (x2 : Int32) (σ : Mem) => J E p l e rmX5_countBuilding s m args below meth c (QV E below args s Q) 3 79 [(0, .ref (eA E 0)), (1, .int a1), (2, .int x2)] [] σ) (by
    intro x2 σ h
    refine j_iload_n C 2 dX5_countBuilding_13 rfl 2 rfl ?_
    refine j_bipush (v := (6 : Int32)) C dX5_countBuilding_14 (by decide) ?_
    refine j_icmp_ge C 32 dX5_countBuilding_16 (by decide) (fun c1 => ?_) (fun c1 => ?_)
    · replace h := h.1 c1
      refine j_iconst (v := (0 : Int32)) C dX5_countBuilding_32 (by decide) ?_
      refine j_istore_n (lv' := [(2, .int (0 : Int32)), (0, .ref (eA E 0)), (1, .int a1)]) C 2 dX5_countBuilding_33 rfl (by decide) rfl ?_
      exact j_sub (lv' := [(0, .ref (eA E 0)), (1, .int a1), (2, .int (0 : Int32))]) [1, 2, 0] rfl h
    · replace h := h.2 c1
      refine j_aload_n C 0 dX5_countBuilding_19 rfl 0 rfl ?_
      refine j_getR C 62 0 7 rfl rfl rfl in_X5_countBuilding_X5 (by decide) (by decide +kernel) dX5_countBuilding_20 ?_
      refine j_iload_n C 2 dX5_countBuilding_23 rfl 2 rfl ?_
      refine j_iconst (v := (0 : Int32)) C dX5_countBuilding_24 (by decide) ?_
      refine j_iast C 62 rfl dX5_countBuilding_25 h.1 ?_
      replace h := h.2
      refine j_mem (fun σ2 eσ2 => ?_)
      replace h := h σ2 eσ2
      obtain ⟨v3, ev3⟩ : ∃ y : Int32, y = x2 + (1 : Int32) := ⟨_, rfl⟩
      replace h := h v3 ev3
      refine j_iinc (v := v3) (lv' := [(2, .int v3), (0, .ref (eA E 0)), (1, .int a1)]) C 2 dX5_countBuilding_26 2 rfl (by rw [ev3]; rfl) (by decide) rfl ?_
      refine j_goto C 13 dX5_countBuilding_29 (by decide) ?_
      exact j_sub (lv' := [(0, .ref (eA E 0)), (1, .int a1), (2, .int v3)]) [1, 2, 0] rfl h) (by
    intro x2 σ h
    refine j_iload_n C 2 dX5_countBuilding_34 rfl 2 rfl ?_
    refine j_iload_n C 1 dX5_countBuilding_35 rfl 1 rfl ?_
    refine j_icmp_ge C 85 dX5_countBuilding_36 (by decide) (fun c4 => ?_) (fun c4 => ?_)
    · replace h := h.1 c4
      exact j_vret C dX5_countBuilding_85 h
    · replace h := h.2 c4
      refine j_aload_n C 0 dX5_countBuilding_39 rfl 0 rfl ?_
      refine j_getR C 19 0 2 rfl rfl rfl in_X5_countBuilding_X5 (by decide) (by decide +kernel) dX5_countBuilding_40 ?_
      refine j_iconst (v := (0 : Int32)) C dX5_countBuilding_43 (by decide) ?_
      refine j_callVV (As := [.int (0 : Int32)]) (rest := []) C 19 (c_X0_crown (rfl) h) (cwV 1 C.2.2.2.2.2.1 gX5_countBuilding_X0_crown rfl rfl rfl hdX0_crown ⟨Nat.le_of_ble_eq_true rfl, Nat.le_of_ble_eq_true rfl⟩) (shp_dyn (rfl)) rfl rfl rfl (Nat.le_of_ble_eq_true rfl) dX5_countBuilding_44 (fun σ5 h => ?_)
      refine j_aload_n C 0 dX5_countBuilding_47 rfl 0 rfl ?_
      refine j_getR C 19 0 2 rfl rfl rfl in_X5_countBuilding_X5 (by decide) (by decide +kernel) dX5_countBuilding_48 ?_
      refine j_getI C 19 11 (shp_dyn (rfl)) rfl rfl in_X5_countBuilding_X0 (by decide) (by decide +kernel) dX5_countBuilding_51 ?_
      refine j_if_eq C 79 dX5_countBuilding_54 (by decide) (fun c6 => ?_) (fun c6 => ?_)
      · replace h := h.1 c6
        exact j_sub (lv' := [(0, .ref (eA E 0)), (1, .int a1), (2, .int x2)]) [0, 1, 2] rfl h
      · replace h := h.2 c6
        refine j_aload_n C 0 dX5_countBuilding_57 rfl 0 rfl ?_
        refine j_getR C 62 0 7 rfl rfl rfl in_X5_countBuilding_X5 (by decide) (by decide +kernel) dX5_countBuilding_58 ?_
        refine j_aload_n C 0 dX5_countBuilding_61 rfl 0 rfl ?_
        refine j_getR C 19 0 2 rfl rfl rfl in_X5_countBuilding_X5 (by decide) (by decide +kernel) dX5_countBuilding_62 ?_
        refine j_getI C 19 8 (shp_dyn (rfl)) rfl rfl in_X5_countBuilding_X0 (by decide) (by decide +kernel) dX5_countBuilding_65 ?_
        refine j_dup2 C dX5_countBuilding_68 rfl rfl ?_
        refine j_iald C 62 rfl dX5_countBuilding_69 h.1 ?_
        replace h := h.2
        refine j_aload_n C 0 dX5_countBuilding_70 rfl 0 rfl ?_
        refine j_getR C 19 0 2 rfl rfl rfl in_X5_countBuilding_X5 (by decide) (by decide +kernel) dX5_countBuilding_71 ?_
        refine j_getI C 19 9 (shp_dyn (rfl)) rfl rfl in_X5_countBuilding_X0 (by decide) (by decide +kernel) dX5_countBuilding_74 ?_
        refine j_iadd C dX5_countBuilding_77 ?_
        refine j_iast C 62 rfl dX5_countBuilding_78 h.1 ?_
        replace h := h.2
        refine j_mem (fun σ7 eσ7 => ?_)
        replace h := h σ7 eσ7
        exact j_sub (lv' := [(0, .ref (eA E 0)), (1, .int a1), (2, .int x2)]) [0, 1, 2] rfl h) (by
    intro x2 σ h
    obtain ⟨v8, ev8⟩ : ∃ y : Int32, y = x2 + (1 : Int32) := ⟨_, rfl⟩
    replace h := h v8 ev8
    refine j_iinc (v := v8) (lv' := [(2, .int v8), (0, .ref (eA E 0)), (1, .int a1)]) C 2 dX5_countBuilding_79 2 rfl (by rw [ev8]; rfl) (by decide) rfl ?_
    refine j_goto C 34 dX5_countBuilding_82 (by decide) ?_
    exact j_sub (lv' := [(0, .ref (eA E 0)), (1, .int a1), (2, .int v8)]) [1, 2, 0] rfl h)
  refine j_aload_n C 0 dX5_countBuilding_0 rfl 0 rfl ?_
  refine j_getR C 19 0 2 rfl rfl rfl in_X5_countBuilding_X5 (by decide) (by decide +kernel) dX5_countBuilding_1 ?_
  refine j_aload_n C 0 dX5_countBuilding_4 rfl 0 rfl ?_
  refine j_getR C 12 0 1 rfl rfl rfl in_X5_countBuilding_X5 (by decide) (by decide +kernel) dX5_countBuilding_5 ?_
  refine j_callVV (As := [.ref (eA E 12)]) (rest := []) C 19 (c_X0_copyFrom (rfl) (rfl) h) (cwV 1 C.2.2.2.2.2.1 gX5_countBuilding_X0_copyFrom rfl rfl rfl hdX0_copyFrom ⟨Nat.le_of_ble_eq_true rfl, Nat.le_of_ble_eq_true rfl⟩) (shp_dyn (rfl)) rfl rfl rfl (Nat.le_of_ble_eq_true rfl) dX5_countBuilding_8 (fun σ9 h => ?_)
  refine j_iconst (v := (0 : Int32)) C dX5_countBuilding_11 (by decide) ?_
  refine j_istore_n (lv' := [(2, .int (0 : Int32)), (0, .ref (eA E 0)), (1, .int a1)]) C 2 dX5_countBuilding_12 rfl (by decide) rfl ?_
  exact j_sub (lv' := [(0, .ref (eA E 0)), (1, .int a1), (2, .int (0 : Int32))]) [1, 2, 0] rfl h
def wp_X5_builder (a1 : Int32) (a2 : Int32) (σ : Mem) (Q : Int32 → Mem → Prop) : Prop :=
  ∀ (P22 : Mem → Prop) (P23 : Int32 → Mem → Prop) (P44 : Int32 → Int32 → Mem → Prop) (P77 : Int32 → Int32 → Mem → Prop),
  (∀ (σ : Mem), (P23 (0 : Int32) σ) → P22 σ) →
  (∀ (s0 : Int32) (σ : Mem), (wp_X5_refusal s0 σ (fun r2 σ1 => (r2 = 0 → wp_X5_countBuilding a1 σ1 (fun σ4 => P44 (0 : Int32) (1 : Int32) σ4)) ∧ (¬ r2 = 0 → Q r2 σ1))) → P23 s0 σ) →
  (∀ (x4 : Int32) (x5 : Int32) (σ : Mem), (((σ.1 12 2) ≤ x5 → vp_in x4 6 ∧ (wp_X5_whichOrMuch a2 x4 ((σ.1 62 (x4).toNatClampNeg)) σ (fun r7 σ6 => Q r7 σ6))) ∧ (¬ (σ.1 12 2) ≤ x5 → vp_in x5 6 ∧ (vp_in x4 6 ∧ (((σ.1 62 (x5).toNatClampNeg) ≤ (σ.1 62 (x4).toNatClampNeg) → P77 x4 x5 σ) ∧ (¬ (σ.1 62 (x5).toNatClampNeg) ≤ (σ.1 62 (x4).toNatClampNeg) → P77 x5 x5 σ))))) → P44 x4 x5 σ) →
  (∀ (x4 : Int32) (x5 : Int32) (σ : Mem), (∀ v9 : Int32, v9 = x5 + (1 : Int32) → P44 x4 v9 σ) → P77 x4 x5 σ) →
  wp_X5_within a1 (1 : Int32) (60 : Int32) σ (fun r11 σ10 => (r11 = 0 → P22 σ10) ∧ (¬ r11 = 0 → wp_X5_isWhichOrMuch a2 σ10 (fun r14 σ13 => (r14 = 0 → P22 σ13) ∧ (¬ r14 = 0 → P23 (1 : Int32) σ13))))
theorem in_X5_builder_X0 : ∀ w ∈ wsX00, w ∈ wsX5_builder := fun _ h => List.mem_cons_of_mem _ (List.mem_append_right _ h)
theorem in_X5_builder_X5 : ∀ w ∈ wsX50, w ∈ wsX5_builder := fun _ h => List.mem_cons_of_mem _ (List.mem_append_left _ (List.mem_append_right _ h))
def rmX5_builder : Room := { frames := 5, cells := 0, slots := 0, locals := 108 }
theorem hdX5_builder : yX5_builder.cls = RX5 ∧ yX5_builder.cls ≠ "java/lang/invoke/MethodHandle" ∧ yX5_builder.cls ≠ "java/lang/invoke/VarHandle" ∧ (parseMethodDescriptor yX5_builder.desc).map (fun d => d.parameters.length) = some 2 := by decide +kernel
set_option maxHeartbeats 4000000 in
set_option maxRecDepth 100000 in
theorem c_X5_builder {l : Launch} {E : EE} {a1 : Int32} {a2 : Int32}  {σ : Mem} {Q : Int32 → Mem → Prop} (h : wp_X5_builder a1 a2 σ Q) : CtI l yX5_builder wsX5_builder rmX5_builder E [.ref (eA E 0), .int a1, .int a2] σ Q := by
  refine metI (cc := cX5_builder) (nL := 6) (ret := (some .int)) (lv := [(0, .ref (eA E 0)), (1, .int a1), (2, .int a2)]) (by decide) rfl (Nat.le_of_ble_eq_true rfl) rfl ?_
  intro p e s m args below meth c C
  unfold wp_X5_builder at h
  replace h := h (fun (σ : Mem) => J E p l e rmX5_builder s m args below meth c (QI E below args s Q) 6 22 [(0, .ref (eA E 0)), (1, .int a1), (2, .int a2)] [.ref (eA E 0)] σ) (fun (s0 : Int32) (σ : Mem) => J E p l e rmX5_builder s m args below meth c (QI E below args s Q) 6 23 [(0, .ref (eA E 0)), (1, .int a1), (2, .int a2)] [.int s0, .ref (eA E 0)] σ) (fun (x4 : Int32) (x5 : Int32) (σ : Mem) => J E p l e rmX5_builder s m args below meth c (QI E below args s Q) 6 44 [(0, .ref (eA E 0)), (2, .int a2), (4, .int x4), (5, .int x5)] [] σ) (fun (x4 : Int32) (x5 : Int32) (σ : Mem) => J E p l e rmX5_builder s m args below meth c (QI E below args s Q) 6 77 [(0, .ref (eA E 0)), (2, .int a2), (4, .int x4), (5, .int x5)] [] σ) (by
    intro σ h
    refine j_iconst (v := (0 : Int32)) C dX5_builder_22 (by decide) ?_
    exact j_sub (lv' := [(0, .ref (eA E 0)), (1, .int a1), (2, .int a2)]) [0, 1, 2] rfl h) (by
    intro s0 σ h
    refine j_callVI (As := [.int s0]) (rest := []) C 0 (c_X5_refusal h) (cwV 1 C.2.2.2.2.2.1 gX5_builder_X5_refusal rfl rfl rfl hdX5_refusal ⟨Nat.le_of_ble_eq_true rfl, Nat.le_of_ble_eq_true rfl⟩) rfl rfl rfl rfl (Nat.le_of_ble_eq_true rfl) dX5_builder_23 (fun r2 σ1 h => ?_)
    refine j_istore_n (lv' := [(3, .int r2), (0, .ref (eA E 0)), (1, .int a1), (2, .int a2)]) C 3 dX5_builder_26 rfl (by decide) rfl ?_
    refine j_iload_n C 3 dX5_builder_27 rfl 0 rfl ?_
    refine j_if_eq C 33 dX5_builder_28 (by decide) (fun c3 => ?_) (fun c3 => ?_)
    · replace h := h.1 c3
      refine j_aload_n C 0 dX5_builder_33 rfl 1 rfl ?_
      refine j_iload_n C 1 dX5_builder_34 rfl 2 rfl ?_
      refine j_callVV (As := [.int a1]) (rest := []) C 0 (c_X5_countBuilding h) (cwV 1 C.2.2.2.2.2.1 gX5_builder_X5_countBuilding rfl rfl rfl hdX5_countBuilding ⟨Nat.le_of_ble_eq_true rfl, Nat.le_of_ble_eq_true rfl⟩) rfl rfl rfl rfl (Nat.le_of_ble_eq_true rfl) dX5_builder_35 (fun σ4 h => ?_)
      refine j_iconst (v := (0 : Int32)) C dX5_builder_38 (by decide) ?_
      refine j_istore (lv' := [(4, .int (0 : Int32)), (3, .int r2), (0, .ref (eA E 0)), (1, .int a1), (2, .int a2)]) C 4 dX5_builder_39 (by decide) rfl ?_
      refine j_iconst (v := (1 : Int32)) C dX5_builder_41 (by decide) ?_
      refine j_istore (lv' := [(5, .int (1 : Int32)), (4, .int (0 : Int32)), (3, .int r2), (0, .ref (eA E 0)), (1, .int a1), (2, .int a2)]) C 5 dX5_builder_42 (by decide) rfl ?_
      exact j_sub (lv' := [(0, .ref (eA E 0)), (2, .int a2), (4, .int (0 : Int32)), (5, .int (1 : Int32))]) [3, 5, 1, 0] rfl h
    · replace h := h.2 c3
      refine j_iload_n C 3 dX5_builder_31 rfl 0 rfl ?_
      exact j_iret C dX5_builder_32 h) (by
    intro x4 x5 σ h
    refine j_iload C 5 dX5_builder_44 3 rfl ?_
    refine j_aload_n C 0 dX5_builder_46 rfl 0 rfl ?_
    refine j_getR C 12 0 1 rfl rfl rfl in_X5_builder_X5 (by decide) (by decide +kernel) dX5_builder_47 ?_
    refine j_getI C 12 2 (shp_dyn (rfl)) rfl rfl in_X5_builder_X0 (by decide) (by decide +kernel) dX5_builder_50 ?_
    refine j_icmp_ge C 83 dX5_builder_53 (by decide) (fun c5 => ?_) (fun c5 => ?_)
    · replace h := h.1 c5
      refine j_iload_n C 2 dX5_builder_83 rfl 1 rfl ?_
      refine j_iload C 4 dX5_builder_84 2 rfl ?_
      refine j_aload_n C 0 dX5_builder_86 rfl 0 rfl ?_
      refine j_getR C 62 0 7 rfl rfl rfl in_X5_builder_X5 (by decide) (by decide +kernel) dX5_builder_87 ?_
      refine j_iload C 4 dX5_builder_90 2 rfl ?_
      refine j_iald C 62 rfl dX5_builder_92 h.1 ?_
      replace h := h.2
      refine j_callSI (As := [.int a2, .int x4, .int (σ.1 62 (x4).toNatClampNeg)]) (rest := []) C (c_X5_whichOrMuch h) (va_cwS 3 C.2.2.2.2.2.1 gX5_builder_X5_whichOrMuch rfl rfl rfl hdX5_whichOrMuch.2 ⟨Nat.le_of_ble_eq_true rfl, Nat.le_of_ble_eq_true rfl⟩) rfl rfl (Nat.le_of_ble_eq_true rfl) dX5_builder_93 (fun r7 σ6 h => ?_)
      exact j_iret C dX5_builder_96 h
    · replace h := h.2 c5
      refine j_aload_n C 0 dX5_builder_56 rfl 0 rfl ?_
      refine j_getR C 62 0 7 rfl rfl rfl in_X5_builder_X5 (by decide) (by decide +kernel) dX5_builder_57 ?_
      refine j_iload C 5 dX5_builder_60 3 rfl ?_
      refine j_iald C 62 rfl dX5_builder_62 h.1 ?_
      replace h := h.2
      refine j_aload_n C 0 dX5_builder_63 rfl 0 rfl ?_
      refine j_getR C 62 0 7 rfl rfl rfl in_X5_builder_X5 (by decide) (by decide +kernel) dX5_builder_64 ?_
      refine j_iload C 4 dX5_builder_67 2 rfl ?_
      refine j_iald C 62 rfl dX5_builder_69 h.1 ?_
      replace h := h.2
      refine j_icmp_le C 77 dX5_builder_70 (by decide) (fun c8 => ?_) (fun c8 => ?_)
      · replace h := h.1 c8
        exact j_sub (lv' := [(0, .ref (eA E 0)), (2, .int a2), (4, .int x4), (5, .int x5)]) [0, 1, 2, 3] rfl h
      · replace h := h.2 c8
        refine j_iload C 5 dX5_builder_73 3 rfl ?_
        refine j_istore (lv' := [(4, .int x5), (0, .ref (eA E 0)), (2, .int a2), (5, .int x5)]) C 4 dX5_builder_75 (by decide) rfl ?_
        exact j_sub (lv' := [(0, .ref (eA E 0)), (2, .int a2), (4, .int x5), (5, .int x5)]) [1, 2, 0, 3] rfl h) (by
    intro x4 x5 σ h
    obtain ⟨v9, ev9⟩ : ∃ y : Int32, y = x5 + (1 : Int32) := ⟨_, rfl⟩
    replace h := h v9 ev9
    refine j_iinc (v := v9) (lv' := [(5, .int v9), (0, .ref (eA E 0)), (2, .int a2), (4, .int x4)]) C 5 dX5_builder_77 3 rfl (by rw [ev9]; rfl) (by decide) rfl ?_
    refine j_goto C 44 dX5_builder_80 (by decide) ?_
    exact j_sub (lv' := [(0, .ref (eA E 0)), (2, .int a2), (4, .int x4), (5, .int v9)]) [1, 2, 3, 0] rfl h)
  refine j_aload_n C 0 dX5_builder_0 rfl 0 rfl ?_
  refine j_iload_n C 1 dX5_builder_1 rfl 1 rfl ?_
  refine j_iconst (v := (1 : Int32)) C dX5_builder_2 (by decide) ?_
  refine j_bipush (v := (60 : Int32)) C dX5_builder_3 (by decide) ?_
  refine j_callSI (As := [.int a1, .int (1 : Int32), .int (60 : Int32)]) (rest := [.ref (eA E 0)]) C (c_X5_within h) (va_cwS 3 C.2.2.2.2.2.1 gX5_builder_X5_within rfl rfl rfl hdX5_within.2 ⟨Nat.le_of_ble_eq_true rfl, Nat.le_of_ble_eq_true rfl⟩) rfl rfl (Nat.le_of_ble_eq_true rfl) dX5_builder_5 (fun r11 σ10 h => ?_)
  refine j_if_eq C 22 dX5_builder_8 (by decide) (fun c12 => ?_) (fun c12 => ?_)
  · replace h := h.1 c12
    exact j_sub (lv' := [(0, .ref (eA E 0)), (1, .int a1), (2, .int a2)]) [0, 1, 2] rfl h
  · replace h := h.2 c12
    refine j_iload_n C 2 dX5_builder_11 rfl 2 rfl ?_
    refine j_callSI (As := [.int a2]) (rest := [.ref (eA E 0)]) C (c_X5_isWhichOrMuch h) (va_cwS 1 C.2.2.2.2.2.1 gX5_builder_X5_isWhichOrMuch rfl rfl rfl hdX5_isWhichOrMuch.2 ⟨Nat.le_of_ble_eq_true rfl, Nat.le_of_ble_eq_true rfl⟩) rfl rfl (Nat.le_of_ble_eq_true rfl) dX5_builder_12 (fun r14 σ13 h => ?_)
    refine j_if_eq C 22 dX5_builder_15 (by decide) (fun c15 => ?_) (fun c15 => ?_)
    · replace h := h.1 c15
      exact j_sub (lv' := [(0, .ref (eA E 0)), (1, .int a1), (2, .int a2)]) [0, 1, 2] rfl h
    · replace h := h.2 c15
      refine j_iconst (v := (1 : Int32)) C dX5_builder_18 (by decide) ?_
      refine j_goto C 23 dX5_builder_19 (by decide) ?_
      exact j_sub (lv' := [(0, .ref (eA E 0)), (1, .int a1), (2, .int a2)]) [0, 1, 2] rfl h
def wp_X5_isOdds (a0 : Int32) (a1 : Int32) (a2 : Int32) (σ : Mem) (Q : Int32 → Mem → Prop) : Prop :=
  wp_X5_within a0 (0 : Int32) (10 : Int32) σ (fun r2 σ1 => (r2 = 0 → Q (0 : Int32) σ1) ∧ (¬ r2 = 0 → wp_X5_within a1 (0 : Int32) (8 : Int32) σ1 (fun r5 σ4 => (r5 = 0 → Q (0 : Int32) σ4) ∧ (¬ r5 = 0 → wp_X5_isWhichOrMuch a2 σ4 (fun r8 σ7 => (r8 = 0 → Q (0 : Int32) σ7) ∧ (¬ r8 = 0 → Q (1 : Int32) σ7))))))
def rmX5_isOdds : Room := { frames := 2, cells := 0, slots := 0, locals := 42 }
theorem hdX5_isOdds : yX5_isOdds.cls = RX5 ∧ yX5_isOdds.cls ≠ "java/lang/invoke/MethodHandle" ∧ yX5_isOdds.cls ≠ "java/lang/invoke/VarHandle" ∧ (parseMethodDescriptor yX5_isOdds.desc).map (fun d => d.parameters.length) = some 3 := by decide +kernel
set_option maxHeartbeats 4000000 in
set_option maxRecDepth 100000 in
theorem c_X5_isOdds {l : Launch} {E : EE} {a0 : Int32} {a1 : Int32} {a2 : Int32}  {σ : Mem} {Q : Int32 → Mem → Prop} (h : wp_X5_isOdds a0 a1 a2 σ Q) : CtI l yX5_isOdds wsX5_isOdds rmX5_isOdds E [.int a0, .int a1, .int a2] σ Q := by
  refine metI (cc := cX5_isOdds) (nL := 3) (ret := (some .boolean)) (lv := [(0, .int a0), (1, .int a1), (2, .int a2)]) (by decide) rfl (Nat.le_of_ble_eq_true rfl) rfl ?_
  intro p e s m args below meth c C
  unfold wp_X5_isOdds at h
  refine j_iload_n C 0 dX5_isOdds_0 rfl 0 rfl ?_
  refine j_iconst (v := (0 : Int32)) C dX5_isOdds_1 (by decide) ?_
  refine j_bipush (v := (10 : Int32)) C dX5_isOdds_2 (by decide) ?_
  refine j_callSI (As := [.int a0, .int (0 : Int32), .int (10 : Int32)]) (rest := []) C (c_X5_within h) (va_cwS 3 C.2.2.2.2.2.1 gX5_isOdds_X5_within rfl rfl rfl hdX5_within.2 ⟨Nat.le_of_ble_eq_true rfl, Nat.le_of_ble_eq_true rfl⟩) rfl rfl (Nat.le_of_ble_eq_true rfl) dX5_isOdds_4 (fun r2 σ1 h => ?_)
  refine j_if_eq C 31 dX5_isOdds_7 (by decide) (fun c3 => ?_) (fun c3 => ?_)
  · replace h := h.1 c3
    refine j_iconst (v := (0 : Int32)) C dX5_isOdds_31 (by decide) ?_
    exact j_zret C dX5_isOdds_32 (Or.inl rfl) h
  · replace h := h.2 c3
    refine j_iload_n C 1 dX5_isOdds_10 rfl 1 rfl ?_
    refine j_iconst (v := (0 : Int32)) C dX5_isOdds_11 (by decide) ?_
    refine j_bipush (v := (8 : Int32)) C dX5_isOdds_12 (by decide) ?_
    refine j_callSI (As := [.int a1, .int (0 : Int32), .int (8 : Int32)]) (rest := []) C (c_X5_within h) (va_cwS 3 C.2.2.2.2.2.1 gX5_isOdds_X5_within rfl rfl rfl hdX5_within.2 ⟨Nat.le_of_ble_eq_true rfl, Nat.le_of_ble_eq_true rfl⟩) rfl rfl (Nat.le_of_ble_eq_true rfl) dX5_isOdds_14 (fun r5 σ4 h => ?_)
    refine j_if_eq C 31 dX5_isOdds_17 (by decide) (fun c6 => ?_) (fun c6 => ?_)
    · replace h := h.1 c6
      refine j_iconst (v := (0 : Int32)) C dX5_isOdds_31 (by decide) ?_
      exact j_zret C dX5_isOdds_32 (Or.inl rfl) h
    · replace h := h.2 c6
      refine j_iload_n C 2 dX5_isOdds_20 rfl 2 rfl ?_
      refine j_callSI (As := [.int a2]) (rest := []) C (c_X5_isWhichOrMuch h) (va_cwS 1 C.2.2.2.2.2.1 gX5_isOdds_X5_isWhichOrMuch rfl rfl rfl hdX5_isWhichOrMuch.2 ⟨Nat.le_of_ble_eq_true rfl, Nat.le_of_ble_eq_true rfl⟩) rfl rfl (Nat.le_of_ble_eq_true rfl) dX5_isOdds_21 (fun r8 σ7 h => ?_)
      refine j_if_eq C 31 dX5_isOdds_24 (by decide) (fun c9 => ?_) (fun c9 => ?_)
      · replace h := h.1 c9
        refine j_iconst (v := (0 : Int32)) C dX5_isOdds_31 (by decide) ?_
        exact j_zret C dX5_isOdds_32 (Or.inl rfl) h
      · replace h := h.2 c9
        refine j_iconst (v := (1 : Int32)) C dX5_isOdds_27 (by decide) ?_
        refine j_goto C 32 dX5_isOdds_28 (by decide) ?_
        exact j_zret C dX5_isOdds_32 (Or.inr rfl) h
def wp_X5_weightOf (a1 : Int32) (a2 : Int32) (a3 : Int32) (σ : Mem) (Q : Int64 → Mem → Prop) : Prop :=
  ∀ (P17 : Int64 → Int32 → Mem → Prop) (P38 : Int64 → Int32 → Int32 → Mem → Prop) (P57 : Int32 → Int32 → Int64 → Int64 → Mem → Prop),
  (∀ (x4 : Int64) (x6 : Int32) (σ : Mem), ((a3 ≤ x6 → Q x4 σ) ∧ (¬ a3 ≤ x6 → (¬ ((a1 >>> (x6 &&& 31)) &&& (1 : Int32)) = (1 : Int32) → P38 x4 x6 (0 : Int32) σ) ∧ (((a1 >>> (x6 &&& 31)) &&& (1 : Int32)) = (1 : Int32) → P38 x4 x6 (1 : Int32) σ))) → P17 x4 x6 σ) →
  (∀ (x4 : Int64) (x6 : Int32) (s0 : Int32) (σ : Mem), ((s0 = 0 → P57 x6 s0 ((((10 : Int32) - a2)).toInt64) x4 σ) ∧ (¬ s0 = 0 → P57 x6 s0 ((a2).toInt64) x4 σ)) → P38 x4 x6 s0 σ) →
  (∀ (x6 : Int32) (x7 : Int32) (s0 : Int64) (s1 : Int64) (σ : Mem), (∀ v4 : Int64, v4 = (s1 * s0) → (¬ (lg_cmp v4 (0 : Int64)) = 0 → wp_X0_crown 19 x7 σ (fun σ6 => ∀ v7 : Int32, v7 = x6 + (1 : Int32) → P17 v4 v7 σ6)) ∧ ((lg_cmp v4 (0 : Int64)) = 0 → Q (0 : Int64) σ)) → P57 x6 x7 s0 s1 σ) →
  wp_X0_copyFrom 19 12 σ (fun σ8 => P17 (1 : Int64) (0 : Int32) σ8)
theorem in_X5_weightOf_X5 : ∀ w ∈ wsX50, w ∈ wsX5_weightOf := fun _ h => List.mem_cons_of_mem _ (List.mem_append_left _ (List.mem_append_right _ h))
def rmX5_weightOf : Room := { frames := 4, cells := 0, slots := 0, locals := 86 }
theorem hdX5_weightOf : yX5_weightOf.cls = RX5 ∧ yX5_weightOf.cls ≠ "java/lang/invoke/MethodHandle" ∧ yX5_weightOf.cls ≠ "java/lang/invoke/VarHandle" ∧ (parseMethodDescriptor yX5_weightOf.desc).map (fun d => d.parameters.length) = some 3 := by decide +kernel
set_option maxHeartbeats 4000000 in
set_option maxRecDepth 100000 in
theorem c_X5_weightOf {l : Launch} {E : EE} {a1 : Int32} {a2 : Int32} {a3 : Int32}  {σ : Mem} {Q : Int64 → Mem → Prop} (h : wp_X5_weightOf a1 a2 a3 σ Q) : CtL l yX5_weightOf wsX5_weightOf rmX5_weightOf E [.ref (eA E 0), .int a1, .int a2, .int a3] σ Q := by
  refine metL (cc := cX5_weightOf) (nL := 8) (ret := (some .long)) (lv := [(0, .ref (eA E 0)), (1, .int a1), (2, .int a2), (3, .int a3)]) (by decide) rfl (Nat.le_of_ble_eq_true rfl) rfl ?_
  intro p e s m args below meth c C
  unfold wp_X5_weightOf at h
  replace h := h (fun (x4 : Int64) (x6 : Int32) (σ : Mem) => J E p l e rmX5_weightOf s m args below meth c (QL E below args s Q) 8 17 [(0, .ref (eA E 0)), (1, .int a1), (2, .int a2), (3, .int a3), (4, .long x4), (6, .int x6)] [] σ) (fun (x4 : Int64) (x6 : Int32) (s0 : Int32) (σ : Mem) => J E p l e rmX5_weightOf s m args below meth c (QL E below args s Q) 8 38 [(0, .ref (eA E 0)), (1, .int a1), (2, .int a2), (3, .int a3), (4, .long x4), (6, .int x6)] [.int s0] σ) (fun (x6 : Int32) (x7 : Int32) (s0 : Int64) (s1 : Int64) (σ : Mem) => J E p l e rmX5_weightOf s m args below meth c (QL E below args s Q) 8 57 [(0, .ref (eA E 0)), (1, .int a1), (2, .int a2), (3, .int a3), (6, .int x6), (7, .int x7)] [.long s0, .long s1] σ) (by
    intro x4 x6 σ h
    refine j_iload C 6 dX5_weightOf_17 5 rfl ?_
    refine j_iload_n C 3 dX5_weightOf_19 rfl 3 rfl ?_
    refine j_icmp_ge C 84 dX5_weightOf_20 (by decide) (fun c1 => ?_) (fun c1 => ?_)
    · replace h := h.1 c1
      refine j_lload C 4 dX5_weightOf_84 4 rfl ?_
      exact j_lret C dX5_weightOf_86 h
    · replace h := h.2 c1
      refine j_iload_n C 1 dX5_weightOf_23 rfl 1 rfl ?_
      refine j_iload C 6 dX5_weightOf_24 5 rfl ?_
      refine j_ishr C dX5_weightOf_26 ?_
      refine j_iconst (v := (1 : Int32)) C dX5_weightOf_27 (by decide) ?_
      refine j_iand C dX5_weightOf_28 ?_
      refine j_iconst (v := (1 : Int32)) C dX5_weightOf_29 (by decide) ?_
      refine j_icmp_ne C 37 dX5_weightOf_30 (by decide) (fun c2 => ?_) (fun c2 => ?_)
      · replace h := h.1 c2
        refine j_iconst (v := (0 : Int32)) C dX5_weightOf_37 (by decide) ?_
        exact j_sub (lv' := [(0, .ref (eA E 0)), (1, .int a1), (2, .int a2), (3, .int a3), (4, .long x4), (6, .int x6)]) [0, 1, 2, 3, 4, 5] rfl h
      · replace h := h.2 c2
        refine j_iconst (v := (1 : Int32)) C dX5_weightOf_33 (by decide) ?_
        refine j_goto C 38 dX5_weightOf_34 (by decide) ?_
        exact j_sub (lv' := [(0, .ref (eA E 0)), (1, .int a1), (2, .int a2), (3, .int a3), (4, .long x4), (6, .int x6)]) [0, 1, 2, 3, 4, 5] rfl h) (by
    intro x4 x6 s0 σ h
    refine j_istore (lv' := [(7, .int s0), (0, .ref (eA E 0)), (1, .int a1), (2, .int a2), (3, .int a3), (4, .long x4), (6, .int x6)]) C 7 dX5_weightOf_38 (by decide) rfl ?_
    refine j_lload C 4 dX5_weightOf_40 5 rfl ?_
    refine j_iload C 7 dX5_weightOf_42 0 rfl ?_
    refine j_if_eq C 52 dX5_weightOf_44 (by decide) (fun c3 => ?_) (fun c3 => ?_)
    · replace h := h.1 c3
      refine j_bipush (v := (10 : Int32)) C dX5_weightOf_52 (by decide) ?_
      refine j_iload_n C 2 dX5_weightOf_54 rfl 3 rfl ?_
      refine j_isub C dX5_weightOf_55 ?_
      refine j_i2l C dX5_weightOf_56 rfl ?_
      exact j_sub (lv' := [(0, .ref (eA E 0)), (1, .int a1), (2, .int a2), (3, .int a3), (6, .int x6), (7, .int s0)]) [1, 2, 3, 4, 6, 0] rfl h
    · replace h := h.2 c3
      refine j_iload_n C 2 dX5_weightOf_47 rfl 3 rfl ?_
      refine j_i2l C dX5_weightOf_48 rfl ?_
      refine j_goto C 57 dX5_weightOf_49 (by decide) ?_
      exact j_sub (lv' := [(0, .ref (eA E 0)), (1, .int a1), (2, .int a2), (3, .int a3), (6, .int x6), (7, .int s0)]) [1, 2, 3, 4, 6, 0] rfl h) (by
    intro x6 x7 s0 s1 σ h
    refine j_lmul C dX5_weightOf_57 ?_
    refine j_topl (fun v4 ev4 => ?_)
    replace h := h v4 ev4
    refine j_lstore (lv' := [(4, .long v4), (0, .ref (eA E 0)), (1, .int a1), (2, .int a2), (3, .int a3), (6, .int x6), (7, .int x7)]) C 4 dX5_weightOf_58 (by decide) rfl ?_
    refine j_lload C 4 dX5_weightOf_60 0 rfl ?_
    refine j_lconst (v := (0 : Int64)) C dX5_weightOf_62 (by decide) ?_
    refine j_lcmp C dX5_weightOf_63 ?_
    refine j_if_ne C 69 dX5_weightOf_64 (by decide) (fun c5 => ?_) (fun c5 => ?_)
    · replace h := h.1 c5
      refine j_aload_n C 0 dX5_weightOf_69 rfl 1 rfl ?_
      refine j_getR C 19 0 2 rfl rfl rfl in_X5_weightOf_X5 (by decide) (by decide +kernel) dX5_weightOf_70 ?_
      refine j_iload C 7 dX5_weightOf_73 6 rfl ?_
      refine j_callVV (As := [.int x7]) (rest := []) C 19 (c_X0_crown (rfl) h) (cwV 1 C.2.2.2.2.2.1 gX5_weightOf_X0_crown rfl rfl rfl hdX0_crown ⟨Nat.le_of_ble_eq_true rfl, Nat.le_of_ble_eq_true rfl⟩) (shp_dyn (rfl)) rfl rfl rfl (Nat.le_of_ble_eq_true rfl) dX5_weightOf_75 (fun σ6 h => ?_)
      obtain ⟨v7, ev7⟩ : ∃ y : Int32, y = x6 + (1 : Int32) := ⟨_, rfl⟩
      replace h := h v7 ev7
      refine j_iinc (v := v7) (lv' := [(6, .int v7), (4, .long v4), (0, .ref (eA E 0)), (1, .int a1), (2, .int a2), (3, .int a3), (7, .int x7)]) C 6 dX5_weightOf_78 5 rfl (by rw [ev7]; rfl) (by decide) rfl ?_
      refine j_goto C 17 dX5_weightOf_81 (by decide) ?_
      exact j_sub (lv' := [(0, .ref (eA E 0)), (1, .int a1), (2, .int a2), (3, .int a3), (4, .long v4), (6, .int v7)]) [2, 3, 4, 5, 1, 0] rfl h
    · replace h := h.2 c5
      refine j_lconst (v := (0 : Int64)) C dX5_weightOf_67 (by decide) ?_
      exact j_lret C dX5_weightOf_68 h)
  refine j_aload_n C 0 dX5_weightOf_0 rfl 0 rfl ?_
  refine j_getR C 19 0 2 rfl rfl rfl in_X5_weightOf_X5 (by decide) (by decide +kernel) dX5_weightOf_1 ?_
  refine j_aload_n C 0 dX5_weightOf_4 rfl 0 rfl ?_
  refine j_getR C 12 0 1 rfl rfl rfl in_X5_weightOf_X5 (by decide) (by decide +kernel) dX5_weightOf_5 ?_
  refine j_callVV (As := [.ref (eA E 12)]) (rest := []) C 19 (c_X0_copyFrom (rfl) (rfl) h) (cwV 1 C.2.2.2.2.2.1 gX5_weightOf_X0_copyFrom rfl rfl rfl hdX0_copyFrom ⟨Nat.le_of_ble_eq_true rfl, Nat.le_of_ble_eq_true rfl⟩) (shp_dyn (rfl)) rfl rfl rfl (Nat.le_of_ble_eq_true rfl) dX5_weightOf_8 (fun σ8 h => ?_)
  refine j_lconst (v := (1 : Int64)) C dX5_weightOf_11 (by decide) ?_
  refine j_lstore (lv' := [(4, .long (1 : Int64)), (0, .ref (eA E 0)), (1, .int a1), (2, .int a2), (3, .int a3)]) C 4 dX5_weightOf_12 (by decide) rfl ?_
  refine j_iconst (v := (0 : Int32)) C dX5_weightOf_14 (by decide) ?_
  refine j_istore (lv' := [(6, .int (0 : Int32)), (4, .long (1 : Int64)), (0, .ref (eA E 0)), (1, .int a1), (2, .int a2), (3, .int a3)]) C 6 dX5_weightOf_15 (by decide) rfl ?_
  exact j_sub (lv' := [(0, .ref (eA E 0)), (1, .int a1), (2, .int a2), (3, .int a3), (4, .long (1 : Int64)), (6, .int (0 : Int32))]) [2, 3, 4, 5, 1, 0] rfl h
def wp_X5_tenTo (a0 : Int32) (σ : Mem) (Q : Int64 → Mem → Prop) : Prop :=
  ∀ (P4 : Int64 → Int32 → Mem → Prop),
  (∀ (x1 : Int64) (x3 : Int32) (σ : Mem), ((a0 ≤ x3 → Q x1 σ) ∧ (¬ a0 ≤ x3 → ∀ v2 : Int64, v2 = (x1 * (10 : Int64)) → ∀ v3 : Int32, v3 = x3 + (1 : Int32) → P4 v2 v3 σ)) → P4 x1 x3 σ) →
  P4 (1 : Int64) (0 : Int32) σ
def rmX5_tenTo : Room := { frames := 0, cells := 0, slots := 0, locals := 0 }
theorem hdX5_tenTo : yX5_tenTo.cls = RX5 ∧ yX5_tenTo.cls ≠ "java/lang/invoke/MethodHandle" ∧ yX5_tenTo.cls ≠ "java/lang/invoke/VarHandle" ∧ (parseMethodDescriptor yX5_tenTo.desc).map (fun d => d.parameters.length) = some 1 := by decide +kernel
set_option maxHeartbeats 4000000 in
set_option maxRecDepth 100000 in
theorem c_X5_tenTo {l : Launch} {E : EE} {a0 : Int32}  {σ : Mem} {Q : Int64 → Mem → Prop} (h : wp_X5_tenTo a0 σ Q) : CtL l yX5_tenTo wsX5_tenTo rmX5_tenTo E [.int a0] σ Q := by
  refine metL (cc := cX5_tenTo) (nL := 4) (ret := (some .long)) (lv := [(0, .int a0)]) (by decide) rfl (Nat.le_of_ble_eq_true rfl) rfl ?_
  intro p e s m args below meth c C
  unfold wp_X5_tenTo at h
  replace h := h (fun (x1 : Int64) (x3 : Int32) (σ : Mem) => J E p l e rmX5_tenTo s m args below meth c (QL E below args s Q) 4 4 [(0, .int a0), (1, .long x1), (3, .int x3)] [] σ) (by
    intro x1 x3 σ h
    refine j_iload_n C 3 dX5_tenTo_4 rfl 2 rfl ?_
    refine j_iload_n C 0 dX5_tenTo_5 rfl 0 rfl ?_
    refine j_icmp_ge C 21 dX5_tenTo_6 (by decide) (fun c1 => ?_) (fun c1 => ?_)
    · replace h := h.1 c1
      refine j_lload_n C 1 dX5_tenTo_21 rfl 1 rfl ?_
      exact j_lret C dX5_tenTo_22 h
    · replace h := h.2 c1
      refine j_lload_n C 1 dX5_tenTo_9 rfl 1 rfl ?_
      refine j_ldc2 C (10 : Int64) dX5_tenTo_10 (by decide +kernel) ?_
      refine j_lmul C dX5_tenTo_13 ?_
      refine j_topl (fun v2 ev2 => ?_)
      replace h := h v2 ev2
      refine j_lstore_n (lv' := [(1, .long v2), (0, .int a0), (3, .int x3)]) C 1 dX5_tenTo_14 rfl (by decide) rfl ?_
      obtain ⟨v3, ev3⟩ : ∃ y : Int32, y = x3 + (1 : Int32) := ⟨_, rfl⟩
      replace h := h v3 ev3
      refine j_iinc (v := v3) (lv' := [(3, .int v3), (1, .long v2), (0, .int a0)]) C 3 dX5_tenTo_15 2 rfl (by rw [ev3]; rfl) (by decide) rfl ?_
      refine j_goto C 4 dX5_tenTo_18 (by decide) ?_
      exact j_sub (lv' := [(0, .int a0), (1, .long v2), (3, .int v3)]) [2, 1, 0] rfl h)
  refine j_lconst (v := (1 : Int64)) C dX5_tenTo_0 (by decide) ?_
  refine j_lstore_n (lv' := [(1, .long (1 : Int64)), (0, .int a0)]) C 1 dX5_tenTo_1 rfl (by decide) rfl ?_
  refine j_iconst (v := (0 : Int32)) C dX5_tenTo_2 (by decide) ?_
  refine j_istore_n (lv' := [(3, .int (0 : Int32)), (1, .long (1 : Int64)), (0, .int a0)]) C 3 dX5_tenTo_3 rfl (by decide) rfl ?_
  exact j_sub (lv' := [(0, .int a0), (1, .long (1 : Int64)), (3, .int (0 : Int32))]) [2, 1, 0] rfl h
def wp_X5_partOfFraction (a0 : Int64) (a2 : Int64) (a4 : Int32) (σ : Mem) (Q : Int64 → Mem → Prop) : Prop :=
  ∀ (P9 : Int64 → Int64 → Int32 → Mem → Prop) (P44 : Int64 → Mem → Prop),
  (∀ (x5 : Int64) (x7 : Int64) (x9 : Int32) (σ : Mem), (((100 : Int32) ≤ x9 → P44 x5 σ) ∧ (¬ (100 : Int32) ≤ x9 → ((lg_cmp x7 (0 : Int64)) = 0 → P44 x5 σ) ∧ (¬ (lg_cmp x7 (0 : Int64)) = 0 → ¬ x7 = 0 ∧ (∀ v3 : Int64, v3 = (x5 - x5 / x7 * x7) → ∀ v4 : Int32, v4 = x9 + (1 : Int32) → P9 x7 v3 v4 σ)))) → P9 x5 x7 x9 σ) →
  (∀ (x5 : Int64) (σ : Mem), ((¬ (lg_cmp x5 (0 : Int64)) = 0 → (¬ a4 = 0 → ¬ x5 = 0 ∧ (Q (a2 / x5) σ)) ∧ (a4 = 0 → ¬ x5 = 0 ∧ (Q (a0 / x5) σ))) ∧ ((lg_cmp x5 (0 : Int64)) = 0 → Q (0 : Int64) σ)) → P44 x5 σ) →
  P9 a2 a0 (0 : Int32) σ
def rmX5_partOfFraction : Room := { frames := 0, cells := 0, slots := 0, locals := 0 }
theorem hdX5_partOfFraction : yX5_partOfFraction.cls = RX5 ∧ yX5_partOfFraction.cls ≠ "java/lang/invoke/MethodHandle" ∧ yX5_partOfFraction.cls ≠ "java/lang/invoke/VarHandle" ∧ (parseMethodDescriptor yX5_partOfFraction.desc).map (fun d => d.parameters.length) = some 3 := by decide +kernel
set_option maxHeartbeats 4000000 in
set_option maxRecDepth 100000 in
theorem c_X5_partOfFraction {l : Launch} {E : EE} {a0 : Int64} {a2 : Int64} {a4 : Int32}  {σ : Mem} {Q : Int64 → Mem → Prop} (h : wp_X5_partOfFraction a0 a2 a4 σ Q) : CtL l yX5_partOfFraction wsX5_partOfFraction rmX5_partOfFraction E [.long a0, .long a2, .int a4] σ Q := by
  refine metL (cc := cX5_partOfFraction) (nL := 12) (ret := (some .long)) (lv := [(0, .long a0), (2, .long a2), (4, .int a4)]) (by decide) rfl (Nat.le_of_ble_eq_true rfl) rfl ?_
  intro p e s m args below meth c C
  unfold wp_X5_partOfFraction at h
  replace h := h (fun (x5 : Int64) (x7 : Int64) (x9 : Int32) (σ : Mem) => J E p l e rmX5_partOfFraction s m args below meth c (QL E below args s Q) 12 9 [(0, .long a0), (2, .long a2), (4, .int a4), (5, .long x5), (7, .long x7), (9, .int x9)] [] σ) (fun (x5 : Int64) (σ : Mem) => J E p l e rmX5_partOfFraction s m args below meth c (QL E below args s Q) 12 44 [(0, .long a0), (2, .long a2), (4, .int a4), (5, .long x5)] [] σ) (by
    intro x5 x7 x9 σ h
    refine j_iload C 9 dX5_partOfFraction_9 5 rfl ?_
    refine j_bipush (v := (100 : Int32)) C dX5_partOfFraction_11 (by decide) ?_
    refine j_icmp_ge C 44 dX5_partOfFraction_13 (by decide) (fun c1 => ?_) (fun c1 => ?_)
    · replace h := h.1 c1
      exact j_sub (lv' := [(0, .long a0), (2, .long a2), (4, .int a4), (5, .long x5)]) [0, 1, 2, 3] rfl h
    · replace h := h.2 c1
      refine j_lload C 7 dX5_partOfFraction_16 4 rfl ?_
      refine j_lconst (v := (0 : Int64)) C dX5_partOfFraction_18 (by decide) ?_
      refine j_lcmp C dX5_partOfFraction_19 ?_
      refine j_if_eq C 44 dX5_partOfFraction_20 (by decide) (fun c2 => ?_) (fun c2 => ?_)
      · replace h := h.1 c2
        exact j_sub (lv' := [(0, .long a0), (2, .long a2), (4, .int a4), (5, .long x5)]) [0, 1, 2, 3] rfl h
      · replace h := h.2 c2
        refine j_lload C 5 dX5_partOfFraction_23 3 rfl ?_
        refine j_lload C 7 dX5_partOfFraction_25 4 rfl ?_
        refine j_lrem C dX5_partOfFraction_27 h.1 ?_
        replace h := h.2
        refine j_topl (fun v3 ev3 => ?_)
        replace h := h v3 ev3
        refine j_lstore (lv' := [(10, .long v3), (0, .long a0), (2, .long a2), (4, .int a4), (5, .long x5), (7, .long x7), (9, .int x9)]) C 10 dX5_partOfFraction_28 (by decide) rfl ?_
        refine j_lload C 7 dX5_partOfFraction_30 5 rfl ?_
        refine j_lstore (lv' := [(5, .long x7), (10, .long v3), (0, .long a0), (2, .long a2), (4, .int a4), (7, .long x7), (9, .int x9)]) C 5 dX5_partOfFraction_32 (by decide) rfl ?_
        refine j_lload C 10 dX5_partOfFraction_34 1 rfl ?_
        refine j_lstore (lv' := [(7, .long v3), (5, .long x7), (10, .long v3), (0, .long a0), (2, .long a2), (4, .int a4), (9, .int x9)]) C 7 dX5_partOfFraction_36 (by decide) rfl ?_
        obtain ⟨v4, ev4⟩ : ∃ y : Int32, y = x9 + (1 : Int32) := ⟨_, rfl⟩
        replace h := h v4 ev4
        refine j_iinc (v := v4) (lv' := [(9, .int v4), (7, .long v3), (5, .long x7), (10, .long v3), (0, .long a0), (2, .long a2), (4, .int a4)]) C 9 dX5_partOfFraction_38 6 rfl (by rw [ev4]; rfl) (by decide) rfl ?_
        refine j_goto C 9 dX5_partOfFraction_41 (by decide) ?_
        exact j_sub (lv' := [(0, .long a0), (2, .long a2), (4, .int a4), (5, .long x7), (7, .long v3), (9, .int v4)]) [4, 5, 6, 2, 1, 0] rfl h) (by
    intro x5 σ h
    refine j_lload C 5 dX5_partOfFraction_44 3 rfl ?_
    refine j_lconst (v := (0 : Int64)) C dX5_partOfFraction_46 (by decide) ?_
    refine j_lcmp C dX5_partOfFraction_47 ?_
    refine j_if_ne C 53 dX5_partOfFraction_48 (by decide) (fun c5 => ?_) (fun c5 => ?_)
    · replace h := h.1 c5
      refine j_iload C 4 dX5_partOfFraction_53 2 rfl ?_
      refine j_if_ne C 65 dX5_partOfFraction_55 (by decide) (fun c6 => ?_) (fun c6 => ?_)
      · replace h := h.1 c6
        refine j_lload_n C 2 dX5_partOfFraction_65 rfl 1 rfl ?_
        refine j_lload C 5 dX5_partOfFraction_66 3 rfl ?_
        refine j_ldiv C dX5_partOfFraction_68 h.1 ?_
        replace h := h.2
        exact j_lret C dX5_partOfFraction_69 h
      · replace h := h.2 c6
        refine j_lload_n C 0 dX5_partOfFraction_58 rfl 0 rfl ?_
        refine j_lload C 5 dX5_partOfFraction_59 3 rfl ?_
        refine j_ldiv C dX5_partOfFraction_61 h.1 ?_
        replace h := h.2
        refine j_goto C 69 dX5_partOfFraction_62 (by decide) ?_
        exact j_lret C dX5_partOfFraction_69 h
    · replace h := h.2 c5
      refine j_lconst (v := (0 : Int64)) C dX5_partOfFraction_51 (by decide) ?_
      exact j_lret C dX5_partOfFraction_52 h)
  refine j_lload_n C 2 dX5_partOfFraction_0 rfl 1 rfl ?_
  refine j_lstore (lv' := [(5, .long a2), (0, .long a0), (2, .long a2), (4, .int a4)]) C 5 dX5_partOfFraction_1 (by decide) rfl ?_
  refine j_lload_n C 0 dX5_partOfFraction_3 rfl 1 rfl ?_
  refine j_lstore (lv' := [(7, .long a0), (5, .long a2), (0, .long a0), (2, .long a2), (4, .int a4)]) C 7 dX5_partOfFraction_4 (by decide) rfl ?_
  refine j_iconst (v := (0 : Int32)) C dX5_partOfFraction_6 (by decide) ?_
  refine j_istore (lv' := [(9, .int (0 : Int32)), (7, .long a0), (5, .long a2), (0, .long a0), (2, .long a2), (4, .int a4)]) C 9 dX5_partOfFraction_7 (by decide) rfl ?_
  exact j_sub (lv' := [(0, .long a0), (2, .long a2), (4, .int a4), (5, .long a2), (7, .long a0), (9, .int (0 : Int32))]) [3, 4, 5, 2, 1, 0] rfl h
def wp_X5_luck (a1 : Int32) (a2 : Int32) (a3 : Int32) (a4 : Int32) (σ : Mem) (Q : Int64 → Mem → Prop) : Prop :=
  ∀ (P23 : Mem → Prop) (P24 : Int32 → Mem → Prop) (P44 : Int64 → Int32 → Mem → Prop) (P80 : Int64 → Int32 → Mem → Prop),
  (∀ (σ : Mem), (P24 (0 : Int32) σ) → P23 σ) →
  (∀ (s0 : Int32) (σ : Mem), (wp_X5_refusal s0 σ (fun r2 σ1 => (r2 = 0 → P44 (0 : Int64) (0 : Int32) σ1) ∧ (¬ r2 = 0 → Q (r2).toInt64 σ1))) → P24 s0 σ) →
  (∀ (x6 : Int64) (x8 : Int32) (σ : Mem), ((((1 : Int32) <<< (a3 &&& 31)) ≤ x8 → wp_X5_tenTo a3 σ (fun r6 σ5 => wp_X5_partOfFraction x6 r6 a4 σ5 (fun r8 σ7 => Q r8 σ7))) ∧ (¬ ((1 : Int32) <<< (a3 &&& 31)) ≤ x8 → wp_X5_weightOf x8 a1 a3 σ (fun r10 σ9 => (¬ (σ9.1 19 8) = a2 → P80 x6 x8 σ9) ∧ ((σ9.1 19 8) = a2 → ∀ v12 : Int64, v12 = (x6 + r10) → P80 v12 x8 σ9)))) → P44 x6 x8 σ) →
  (∀ (x6 : Int64) (x8 : Int32) (σ : Mem), (∀ v13 : Int32, v13 = x8 + (1 : Int32) → P44 x6 v13 σ) → P80 x6 x8 σ) →
  wp_X5_isOdds a1 a3 a4 σ (fun r15 σ14 => (r15 = 0 → P23 σ14) ∧ (¬ r15 = 0 → wp_X5_isHeir a2 σ14 (fun r18 σ17 => (r18 = 0 → P23 σ17) ∧ (¬ r18 = 0 → P24 (1 : Int32) σ17))))
theorem in_X5_luck_X0 : ∀ w ∈ wsX00, w ∈ wsX5_luck := fun _ h => List.mem_cons_of_mem _ (List.mem_append_right _ h)
theorem in_X5_luck_X5 : ∀ w ∈ wsX50, w ∈ wsX5_luck := fun _ h => List.mem_cons_of_mem _ (List.mem_append_left _ (List.mem_append_right _ h))
def rmX5_luck : Room := { frames := 5, cells := 0, slots := 0, locals := 113 }
theorem hdX5_luck : yX5_luck.cls = RX5 ∧ yX5_luck.cls ≠ "java/lang/invoke/MethodHandle" ∧ yX5_luck.cls ≠ "java/lang/invoke/VarHandle" ∧ (parseMethodDescriptor yX5_luck.desc).map (fun d => d.parameters.length) = some 4 := by decide +kernel
set_option maxHeartbeats 4000000 in
set_option maxRecDepth 100000 in
theorem c_X5_luck {l : Launch} {E : EE} {a1 : Int32} {a2 : Int32} {a3 : Int32} {a4 : Int32}  {σ : Mem} {Q : Int64 → Mem → Prop} (h : wp_X5_luck a1 a2 a3 a4 σ Q) : CtL l yX5_luck wsX5_luck rmX5_luck E [.ref (eA E 0), .int a1, .int a2, .int a3, .int a4] σ Q := by
  refine metL (cc := cX5_luck) (nL := 11) (ret := (some .long)) (lv := [(0, .ref (eA E 0)), (1, .int a1), (2, .int a2), (3, .int a3), (4, .int a4)]) (by decide) rfl (Nat.le_of_ble_eq_true rfl) rfl ?_
  intro p e s m args below meth c C
  unfold wp_X5_luck at h
  replace h := h (fun (σ : Mem) => J E p l e rmX5_luck s m args below meth c (QL E below args s Q) 11 23 [(0, .ref (eA E 0)), (1, .int a1), (2, .int a2), (3, .int a3), (4, .int a4)] [.ref (eA E 0)] σ) (fun (s0 : Int32) (σ : Mem) => J E p l e rmX5_luck s m args below meth c (QL E below args s Q) 11 24 [(0, .ref (eA E 0)), (1, .int a1), (2, .int a2), (3, .int a3), (4, .int a4)] [.int s0, .ref (eA E 0)] σ) (fun (x6 : Int64) (x8 : Int32) (σ : Mem) => J E p l e rmX5_luck s m args below meth c (QL E below args s Q) 11 44 [(0, .ref (eA E 0)), (1, .int a1), (2, .int a2), (3, .int a3), (4, .int a4), (6, .long x6), (8, .int x8)] [] σ) (fun (x6 : Int64) (x8 : Int32) (σ : Mem) => J E p l e rmX5_luck s m args below meth c (QL E below args s Q) 11 80 [(0, .ref (eA E 0)), (1, .int a1), (2, .int a2), (3, .int a3), (4, .int a4), (6, .long x6), (8, .int x8)] [] σ) (by
    intro σ h
    refine j_iconst (v := (0 : Int32)) C dX5_luck_23 (by decide) ?_
    exact j_sub (lv' := [(0, .ref (eA E 0)), (1, .int a1), (2, .int a2), (3, .int a3), (4, .int a4)]) [0, 1, 2, 3, 4] rfl h) (by
    intro s0 σ h
    refine j_callVI (As := [.int s0]) (rest := []) C 0 (c_X5_refusal h) (cwV 1 C.2.2.2.2.2.1 gX5_luck_X5_refusal rfl rfl rfl hdX5_refusal ⟨Nat.le_of_ble_eq_true rfl, Nat.le_of_ble_eq_true rfl⟩) rfl rfl rfl rfl (Nat.le_of_ble_eq_true rfl) dX5_luck_24 (fun r2 σ1 h => ?_)
    refine j_istore (lv' := [(5, .int r2), (0, .ref (eA E 0)), (1, .int a1), (2, .int a2), (3, .int a3), (4, .int a4)]) C 5 dX5_luck_27 (by decide) rfl ?_
    refine j_iload C 5 dX5_luck_29 0 rfl ?_
    refine j_if_eq C 38 dX5_luck_31 (by decide) (fun c3 => ?_) (fun c3 => ?_)
    · replace h := h.1 c3
      refine j_lconst (v := (0 : Int64)) C dX5_luck_38 (by decide) ?_
      refine j_lstore (lv' := [(6, .long (0 : Int64)), (5, .int r2), (0, .ref (eA E 0)), (1, .int a1), (2, .int a2), (3, .int a3), (4, .int a4)]) C 6 dX5_luck_39 (by decide) rfl ?_
      refine j_iconst (v := (0 : Int32)) C dX5_luck_41 (by decide) ?_
      refine j_istore (lv' := [(8, .int (0 : Int32)), (6, .long (0 : Int64)), (5, .int r2), (0, .ref (eA E 0)), (1, .int a1), (2, .int a2), (3, .int a3), (4, .int a4)]) C 8 dX5_luck_42 (by decide) rfl ?_
      exact j_sub (lv' := [(0, .ref (eA E 0)), (1, .int a1), (2, .int a2), (3, .int a3), (4, .int a4), (6, .long (0 : Int64)), (8, .int (0 : Int32))]) [3, 4, 5, 6, 7, 1, 0] rfl h
    · replace h := h.2 c3
      refine j_iload C 5 dX5_luck_34 0 rfl ?_
      refine j_i2l C dX5_luck_36 rfl ?_
      exact j_lret C dX5_luck_37 h) (by
    intro x6 x8 σ h
    refine j_iload C 8 dX5_luck_44 6 rfl ?_
    refine j_iconst (v := (1 : Int32)) C dX5_luck_46 (by decide) ?_
    refine j_iload_n C 3 dX5_luck_47 rfl 3 rfl ?_
    refine j_ishl C dX5_luck_48 ?_
    refine j_icmp_ge C 86 dX5_luck_49 (by decide) (fun c4 => ?_) (fun c4 => ?_)
    · replace h := h.1 c4
      refine j_lload C 6 dX5_luck_86 5 rfl ?_
      refine j_iload_n C 3 dX5_luck_88 rfl 3 rfl ?_
      refine j_callSL (As := [.int a3]) (rest := [.long x6]) C (c_X5_tenTo h) (va_cwS 1 C.2.2.2.2.2.1 gX5_luck_X5_tenTo rfl rfl rfl hdX5_tenTo.2 ⟨Nat.le_of_ble_eq_true rfl, Nat.le_of_ble_eq_true rfl⟩) rfl rfl (Nat.le_of_ble_eq_true rfl) dX5_luck_89 (fun r6 σ5 h => ?_)
      refine j_iload C 4 dX5_luck_92 4 rfl ?_
      refine j_callSL (As := [.long x6, .long r6, .int a4]) (rest := []) C (c_X5_partOfFraction h) (va_cwS 3 C.2.2.2.2.2.1 gX5_luck_X5_partOfFraction rfl rfl rfl hdX5_partOfFraction.2 ⟨Nat.le_of_ble_eq_true rfl, Nat.le_of_ble_eq_true rfl⟩) rfl rfl (Nat.le_of_ble_eq_true rfl) dX5_luck_94 (fun r8 σ7 h => ?_)
      exact j_lret C dX5_luck_97 h
    · replace h := h.2 c4
      refine j_aload_n C 0 dX5_luck_52 rfl 0 rfl ?_
      refine j_iload C 8 dX5_luck_53 6 rfl ?_
      refine j_iload_n C 1 dX5_luck_55 rfl 1 rfl ?_
      refine j_iload_n C 3 dX5_luck_56 rfl 3 rfl ?_
      refine j_callVL (As := [.int x8, .int a1, .int a3]) (rest := []) C 0 (c_X5_weightOf h) (cwV 3 C.2.2.2.2.2.1 gX5_luck_X5_weightOf rfl rfl rfl hdX5_weightOf ⟨Nat.le_of_ble_eq_true rfl, Nat.le_of_ble_eq_true rfl⟩) rfl rfl rfl rfl (Nat.le_of_ble_eq_true rfl) dX5_luck_57 (fun r10 σ9 h => ?_)
      refine j_lstore (lv' := [(9, .long r10), (0, .ref (eA E 0)), (1, .int a1), (2, .int a2), (3, .int a3), (4, .int a4), (6, .long x6), (8, .int x8)]) C 9 dX5_luck_60 (by decide) rfl ?_
      refine j_aload_n C 0 dX5_luck_62 rfl 1 rfl ?_
      refine j_getR C 19 0 2 rfl rfl rfl in_X5_luck_X5 (by decide) (by decide +kernel) dX5_luck_63 ?_
      refine j_getI C 19 8 (shp_dyn (rfl)) rfl rfl in_X5_luck_X0 (by decide) (by decide +kernel) dX5_luck_66 ?_
      refine j_iload_n C 2 dX5_luck_69 rfl 3 rfl ?_
      refine j_icmp_ne C 80 dX5_luck_70 (by decide) (fun c11 => ?_) (fun c11 => ?_)
      · replace h := h.1 c11
        exact j_sub (lv' := [(0, .ref (eA E 0)), (1, .int a1), (2, .int a2), (3, .int a3), (4, .int a4), (6, .long x6), (8, .int x8)]) [1, 2, 3, 4, 5, 6, 7] rfl h
      · replace h := h.2 c11
        refine j_lload C 6 dX5_luck_73 6 rfl ?_
        refine j_lload C 9 dX5_luck_75 0 rfl ?_
        refine j_ladd C dX5_luck_77 ?_
        refine j_topl (fun v12 ev12 => ?_)
        replace h := h v12 ev12
        refine j_lstore (lv' := [(6, .long v12), (9, .long r10), (0, .ref (eA E 0)), (1, .int a1), (2, .int a2), (3, .int a3), (4, .int a4), (8, .int x8)]) C 6 dX5_luck_78 (by decide) rfl ?_
        exact j_sub (lv' := [(0, .ref (eA E 0)), (1, .int a1), (2, .int a2), (3, .int a3), (4, .int a4), (6, .long v12), (8, .int x8)]) [2, 3, 4, 5, 6, 0, 7] rfl h) (by
    intro x6 x8 σ h
    obtain ⟨v13, ev13⟩ : ∃ y : Int32, y = x8 + (1 : Int32) := ⟨_, rfl⟩
    replace h := h v13 ev13
    refine j_iinc (v := v13) (lv' := [(8, .int v13), (0, .ref (eA E 0)), (1, .int a1), (2, .int a2), (3, .int a3), (4, .int a4), (6, .long x6)]) C 8 dX5_luck_80 6 rfl (by rw [ev13]; rfl) (by decide) rfl ?_
    refine j_goto C 44 dX5_luck_83 (by decide) ?_
    exact j_sub (lv' := [(0, .ref (eA E 0)), (1, .int a1), (2, .int a2), (3, .int a3), (4, .int a4), (6, .long x6), (8, .int v13)]) [1, 2, 3, 4, 5, 6, 0] rfl h)
  refine j_aload_n C 0 dX5_luck_0 rfl 0 rfl ?_
  refine j_iload_n C 1 dX5_luck_1 rfl 1 rfl ?_
  refine j_iload_n C 3 dX5_luck_2 rfl 3 rfl ?_
  refine j_iload C 4 dX5_luck_3 4 rfl ?_
  refine j_callSI (As := [.int a1, .int a3, .int a4]) (rest := [.ref (eA E 0)]) C (c_X5_isOdds h) (va_cwS 3 C.2.2.2.2.2.1 gX5_luck_X5_isOdds rfl rfl rfl hdX5_isOdds.2 ⟨Nat.le_of_ble_eq_true rfl, Nat.le_of_ble_eq_true rfl⟩) rfl rfl (Nat.le_of_ble_eq_true rfl) dX5_luck_5 (fun r15 σ14 h => ?_)
  refine j_if_eq C 23 dX5_luck_8 (by decide) (fun c16 => ?_) (fun c16 => ?_)
  · replace h := h.1 c16
    exact j_sub (lv' := [(0, .ref (eA E 0)), (1, .int a1), (2, .int a2), (3, .int a3), (4, .int a4)]) [0, 1, 2, 3, 4] rfl h
  · replace h := h.2 c16
    refine j_aload_n C 0 dX5_luck_11 rfl 0 rfl ?_
    refine j_iload_n C 2 dX5_luck_12 rfl 2 rfl ?_
    refine j_callVI (As := [.int a2]) (rest := [.ref (eA E 0)]) C 0 (c_X5_isHeir h) (cwV 1 C.2.2.2.2.2.1 gX5_luck_X5_isHeir rfl rfl rfl hdX5_isHeir ⟨Nat.le_of_ble_eq_true rfl, Nat.le_of_ble_eq_true rfl⟩) rfl rfl rfl rfl (Nat.le_of_ble_eq_true rfl) dX5_luck_13 (fun r18 σ17 h => ?_)
    refine j_if_eq C 23 dX5_luck_16 (by decide) (fun c19 => ?_) (fun c19 => ?_)
    · replace h := h.1 c19
      exact j_sub (lv' := [(0, .ref (eA E 0)), (1, .int a1), (2, .int a2), (3, .int a3), (4, .int a4)]) [0, 1, 2, 3, 4] rfl h
    · replace h := h.2 c19
      refine j_iconst (v := (1 : Int32)) C dX5_luck_19 (by decide) ?_
      refine j_goto C 24 dX5_luck_20 (by decide) ?_
      exact j_sub (lv' := [(0, .ref (eA E 0)), (1, .int a1), (2, .int a2), (3, .int a3), (4, .int a4)]) [0, 1, 2, 3, 4] rfl h
def wp_X5_mean (a1 : Int32) (a2 : Int32) (a3 : Int32) (σ : Mem) (Q : Int64 → Mem → Prop) : Prop :=
  ∀ (P27 : Int64 → Int32 → Mem → Prop),
  (∀ (x5 : Int64) (x7 : Int32) (σ : Mem), ((((1 : Int32) <<< (a2 &&& 31)) ≤ x7 → wp_X5_tenTo a2 σ (fun r3 σ2 => wp_X5_partOfFraction x5 r3 a3 σ2 (fun r5 σ4 => Q r5 σ4))) ∧ (¬ ((1 : Int32) <<< (a2 &&& 31)) ≤ x7 → wp_X5_weightOf x7 a1 a2 σ (fun r7 σ6 => ∀ v8 : Int64, v8 = (x5 + (r7 * ((σ6.1 19 4)).toInt64)) → ∀ v9 : Int32, v9 = x7 + (1 : Int32) → P27 v8 v9 σ6))) → P27 x5 x7 σ) →
  wp_X5_isOdds a1 a2 a3 σ (fun r11 σ10 => wp_X5_refusal r11 σ10 (fun r13 σ12 => (r13 = 0 → P27 (0 : Int64) (0 : Int32) σ12) ∧ (¬ r13 = 0 → Q (r13).toInt64 σ12)))
theorem in_X5_mean_X0 : ∀ w ∈ wsX00, w ∈ wsX5_mean := fun _ h => List.mem_cons_of_mem _ (List.mem_append_right _ h)
theorem in_X5_mean_X5 : ∀ w ∈ wsX50, w ∈ wsX5_mean := fun _ h => List.mem_cons_of_mem _ (List.mem_append_left _ (List.mem_append_right _ h))
def rmX5_mean : Room := { frames := 5, cells := 0, slots := 0, locals := 113 }
theorem hdX5_mean : yX5_mean.cls = RX5 ∧ yX5_mean.cls ≠ "java/lang/invoke/MethodHandle" ∧ yX5_mean.cls ≠ "java/lang/invoke/VarHandle" ∧ (parseMethodDescriptor yX5_mean.desc).map (fun d => d.parameters.length) = some 3 := by decide +kernel
set_option maxHeartbeats 4000000 in
set_option maxRecDepth 100000 in
theorem c_X5_mean {l : Launch} {E : EE} {a1 : Int32} {a2 : Int32} {a3 : Int32}  {σ : Mem} {Q : Int64 → Mem → Prop} (h : wp_X5_mean a1 a2 a3 σ Q) : CtL l yX5_mean wsX5_mean rmX5_mean E [.ref (eA E 0), .int a1, .int a2, .int a3] σ Q := by
  refine metL (cc := cX5_mean) (nL := 10) (ret := (some .long)) (lv := [(0, .ref (eA E 0)), (1, .int a1), (2, .int a2), (3, .int a3)]) (by decide) rfl (Nat.le_of_ble_eq_true rfl) rfl ?_
  intro p e s m args below meth c C
  unfold wp_X5_mean at h
  replace h := h (fun (x5 : Int64) (x7 : Int32) (σ : Mem) => J E p l e rmX5_mean s m args below meth c (QL E below args s Q) 10 27 [(0, .ref (eA E 0)), (1, .int a1), (2, .int a2), (3, .int a3), (5, .long x5), (7, .int x7)] [] σ) (by
    intro x5 x7 σ h
    refine j_iload C 7 dX5_mean_27 5 rfl ?_
    refine j_iconst (v := (1 : Int32)) C dX5_mean_29 (by decide) ?_
    refine j_iload_n C 2 dX5_mean_30 rfl 2 rfl ?_
    refine j_ishl C dX5_mean_31 ?_
    refine j_icmp_ge C 67 dX5_mean_32 (by decide) (fun c1 => ?_) (fun c1 => ?_)
    · replace h := h.1 c1
      refine j_lload C 5 dX5_mean_67 4 rfl ?_
      refine j_iload_n C 2 dX5_mean_69 rfl 2 rfl ?_
      refine j_callSL (As := [.int a2]) (rest := [.long x5]) C (c_X5_tenTo h) (va_cwS 1 C.2.2.2.2.2.1 gX5_mean_X5_tenTo rfl rfl rfl hdX5_tenTo.2 ⟨Nat.le_of_ble_eq_true rfl, Nat.le_of_ble_eq_true rfl⟩) rfl rfl (Nat.le_of_ble_eq_true rfl) dX5_mean_70 (fun r3 σ2 h => ?_)
      refine j_iload_n C 3 dX5_mean_73 rfl 3 rfl ?_
      refine j_callSL (As := [.long x5, .long r3, .int a3]) (rest := []) C (c_X5_partOfFraction h) (va_cwS 3 C.2.2.2.2.2.1 gX5_mean_X5_partOfFraction rfl rfl rfl hdX5_partOfFraction.2 ⟨Nat.le_of_ble_eq_true rfl, Nat.le_of_ble_eq_true rfl⟩) rfl rfl (Nat.le_of_ble_eq_true rfl) dX5_mean_74 (fun r5 σ4 h => ?_)
      exact j_lret C dX5_mean_77 h
    · replace h := h.2 c1
      refine j_aload_n C 0 dX5_mean_35 rfl 0 rfl ?_
      refine j_iload C 7 dX5_mean_36 5 rfl ?_
      refine j_iload_n C 1 dX5_mean_38 rfl 1 rfl ?_
      refine j_iload_n C 2 dX5_mean_39 rfl 2 rfl ?_
      refine j_callVL (As := [.int x7, .int a1, .int a2]) (rest := []) C 0 (c_X5_weightOf h) (cwV 3 C.2.2.2.2.2.1 gX5_mean_X5_weightOf rfl rfl rfl hdX5_weightOf ⟨Nat.le_of_ble_eq_true rfl, Nat.le_of_ble_eq_true rfl⟩) rfl rfl rfl rfl (Nat.le_of_ble_eq_true rfl) dX5_mean_40 (fun r7 σ6 h => ?_)
      refine j_lstore (lv' := [(8, .long r7), (0, .ref (eA E 0)), (1, .int a1), (2, .int a2), (3, .int a3), (5, .long x5), (7, .int x7)]) C 8 dX5_mean_43 (by decide) rfl ?_
      refine j_lload C 5 dX5_mean_45 5 rfl ?_
      refine j_lload C 8 dX5_mean_47 0 rfl ?_
      refine j_aload_n C 0 dX5_mean_49 rfl 1 rfl ?_
      refine j_getR C 19 0 2 rfl rfl rfl in_X5_mean_X5 (by decide) (by decide +kernel) dX5_mean_50 ?_
      refine j_getI C 19 4 (shp_dyn (rfl)) rfl rfl in_X5_mean_X0 (by decide) (by decide +kernel) dX5_mean_53 ?_
      refine j_i2l C dX5_mean_56 rfl ?_
      refine j_lmul C dX5_mean_57 ?_
      refine j_ladd C dX5_mean_58 ?_
      refine j_topl (fun v8 ev8 => ?_)
      replace h := h v8 ev8
      refine j_lstore (lv' := [(5, .long v8), (8, .long r7), (0, .ref (eA E 0)), (1, .int a1), (2, .int a2), (3, .int a3), (7, .int x7)]) C 5 dX5_mean_59 (by decide) rfl ?_
      obtain ⟨v9, ev9⟩ : ∃ y : Int32, y = x7 + (1 : Int32) := ⟨_, rfl⟩
      replace h := h v9 ev9
      refine j_iinc (v := v9) (lv' := [(7, .int v9), (5, .long v8), (8, .long r7), (0, .ref (eA E 0)), (1, .int a1), (2, .int a2), (3, .int a3)]) C 7 dX5_mean_61 6 rfl (by rw [ev9]; rfl) (by decide) rfl ?_
      refine j_goto C 27 dX5_mean_64 (by decide) ?_
      exact j_sub (lv' := [(0, .ref (eA E 0)), (1, .int a1), (2, .int a2), (3, .int a3), (5, .long v8), (7, .int v9)]) [3, 4, 5, 6, 1, 0] rfl h)
  refine j_aload_n C 0 dX5_mean_0 rfl 0 rfl ?_
  refine j_iload_n C 1 dX5_mean_1 rfl 1 rfl ?_
  refine j_iload_n C 2 dX5_mean_2 rfl 2 rfl ?_
  refine j_iload_n C 3 dX5_mean_3 rfl 3 rfl ?_
  refine j_callSI (As := [.int a1, .int a2, .int a3]) (rest := [.ref (eA E 0)]) C (c_X5_isOdds h) (va_cwS 3 C.2.2.2.2.2.1 gX5_mean_X5_isOdds rfl rfl rfl hdX5_isOdds.2 ⟨Nat.le_of_ble_eq_true rfl, Nat.le_of_ble_eq_true rfl⟩) rfl rfl (Nat.le_of_ble_eq_true rfl) dX5_mean_4 (fun r11 σ10 h => ?_)
  refine j_callVI (As := [.int r11]) (rest := []) C 0 (c_X5_refusal h) (cwV 1 C.2.2.2.2.2.1 gX5_mean_X5_refusal rfl rfl rfl hdX5_refusal ⟨Nat.le_of_ble_eq_true rfl, Nat.le_of_ble_eq_true rfl⟩) rfl rfl rfl rfl (Nat.le_of_ble_eq_true rfl) dX5_mean_7 (fun r13 σ12 h => ?_)
  refine j_istore (lv' := [(4, .int r13), (0, .ref (eA E 0)), (1, .int a1), (2, .int a2), (3, .int a3)]) C 4 dX5_mean_10 (by decide) rfl ?_
  refine j_iload C 4 dX5_mean_12 0 rfl ?_
  refine j_if_eq C 21 dX5_mean_14 (by decide) (fun c14 => ?_) (fun c14 => ?_)
  · replace h := h.1 c14
    refine j_lconst (v := (0 : Int64)) C dX5_mean_21 (by decide) ?_
    refine j_lstore (lv' := [(5, .long (0 : Int64)), (4, .int r13), (0, .ref (eA E 0)), (1, .int a1), (2, .int a2), (3, .int a3)]) C 5 dX5_mean_22 (by decide) rfl ?_
    refine j_iconst (v := (0 : Int32)) C dX5_mean_24 (by decide) ?_
    refine j_istore (lv' := [(7, .int (0 : Int32)), (5, .long (0 : Int64)), (4, .int r13), (0, .ref (eA E 0)), (1, .int a1), (2, .int a2), (3, .int a3)]) C 7 dX5_mean_25 (by decide) rfl ?_
    exact j_sub (lv' := [(0, .ref (eA E 0)), (1, .int a1), (2, .int a2), (3, .int a3), (5, .long (0 : Int64)), (7, .int (0 : Int32))]) [3, 4, 5, 6, 1, 0] rfl h
  · replace h := h.2 c14
    refine j_iload C 4 dX5_mean_17 0 rfl ?_
    refine j_i2l C dX5_mean_19 rfl ?_
    exact j_lret C dX5_mean_20 h
def wp_X5_see (a1 : Int32) (a2 : Int32) (σ : Mem) (Q : Int32 → Mem → Prop) : Prop :=
  wp_X5_within a1 (1 : Int32) (20 : Int32) σ (fun r2 σ1 => (r2 = 0 → Q (-1 : Int32) σ1) ∧ (¬ r2 = 0 → wp_X5_isHeir a2 σ1 (fun r5 σ4 => (¬ r5 = 0 → wp_X3_add 26 a1 a2 σ4 (fun r8 σ7 => (r8 = 0 → Q (-3 : Int32) σ7) ∧ (¬ r8 = 0 → Q (σ7.1 26 2) σ7))) ∧ (r5 = 0 → Q (-1 : Int32) σ4))))
theorem in_X5_see_X3 : ∀ w ∈ wsX30, w ∈ wsX5_see := fun _ h => List.mem_cons_of_mem _ (List.mem_append_left _ (List.mem_append_right _ h))
theorem in_X5_see_X5 : ∀ w ∈ wsX50, w ∈ wsX5_see := fun _ h => List.mem_cons_of_mem _ (List.mem_append_left _ (List.mem_append_left _ (List.mem_append_right _ h)))
def rmX5_see : Room := { frames := 2, cells := 0, slots := 0, locals := 43 }
theorem hdX5_see : yX5_see.cls = RX5 ∧ yX5_see.cls ≠ "java/lang/invoke/MethodHandle" ∧ yX5_see.cls ≠ "java/lang/invoke/VarHandle" ∧ (parseMethodDescriptor yX5_see.desc).map (fun d => d.parameters.length) = some 2 := by decide +kernel
set_option maxHeartbeats 4000000 in
set_option maxRecDepth 100000 in
theorem c_X5_see {l : Launch} {E : EE} {a1 : Int32} {a2 : Int32}  {σ : Mem} {Q : Int32 → Mem → Prop} (h : wp_X5_see a1 a2 σ Q) : CtI l yX5_see wsX5_see rmX5_see E [.ref (eA E 0), .int a1, .int a2] σ Q := by
  refine metI (cc := cX5_see) (nL := 3) (ret := (some .int)) (lv := [(0, .ref (eA E 0)), (1, .int a1), (2, .int a2)]) (by decide) rfl (Nat.le_of_ble_eq_true rfl) rfl ?_
  intro p e s m args below meth c C
  unfold wp_X5_see at h
  refine j_iload_n C 1 dX5_see_0 rfl 1 rfl ?_
  refine j_iconst (v := (1 : Int32)) C dX5_see_1 (by decide) ?_
  refine j_bipush (v := (20 : Int32)) C dX5_see_2 (by decide) ?_
  refine j_callSI (As := [.int a1, .int (1 : Int32), .int (20 : Int32)]) (rest := []) C (c_X5_within h) (va_cwS 3 C.2.2.2.2.2.1 gX5_see_X5_within rfl rfl rfl hdX5_within.2 ⟨Nat.le_of_ble_eq_true rfl, Nat.le_of_ble_eq_true rfl⟩) rfl rfl (Nat.le_of_ble_eq_true rfl) dX5_see_4 (fun r2 σ1 h => ?_)
  refine j_if_eq C 18 dX5_see_7 (by decide) (fun c3 => ?_) (fun c3 => ?_)
  · replace h := h.1 c3
    refine j_iconst (v := (-1 : Int32)) C dX5_see_18 (by decide) ?_
    exact j_iret C dX5_see_19 h
  · replace h := h.2 c3
    refine j_aload_n C 0 dX5_see_10 rfl 0 rfl ?_
    refine j_iload_n C 2 dX5_see_11 rfl 2 rfl ?_
    refine j_callVI (As := [.int a2]) (rest := []) C 0 (c_X5_isHeir h) (cwV 1 C.2.2.2.2.2.1 gX5_see_X5_isHeir rfl rfl rfl hdX5_isHeir ⟨Nat.le_of_ble_eq_true rfl, Nat.le_of_ble_eq_true rfl⟩) rfl rfl rfl rfl (Nat.le_of_ble_eq_true rfl) dX5_see_12 (fun r5 σ4 h => ?_)
    refine j_if_ne C 20 dX5_see_15 (by decide) (fun c6 => ?_) (fun c6 => ?_)
    · replace h := h.1 c6
      refine j_aload_n C 0 dX5_see_20 rfl 0 rfl ?_
      refine j_getR C 26 0 3 rfl rfl rfl in_X5_see_X5 (by decide) (by decide +kernel) dX5_see_21 ?_
      refine j_iload_n C 1 dX5_see_24 rfl 1 rfl ?_
      refine j_iload_n C 2 dX5_see_25 rfl 2 rfl ?_
      refine j_callVI (As := [.int a1, .int a2]) (rest := []) C 26 (c_X3_add (rfl) h) (cwV 2 C.2.2.2.2.2.1 gX5_see_X3_add rfl rfl rfl hdX3_add ⟨Nat.le_of_ble_eq_true rfl, Nat.le_of_ble_eq_true rfl⟩) (shp_sig (rfl)) rfl rfl rfl (Nat.le_of_ble_eq_true rfl) dX5_see_26 (fun r8 σ7 h => ?_)
      refine j_if_eq C 42 dX5_see_29 (by decide) (fun c9 => ?_) (fun c9 => ?_)
      · replace h := h.1 c9
        refine j_bipush (v := (-3 : Int32)) C dX5_see_42 (by decide) ?_
        exact j_iret C dX5_see_44 h
      · replace h := h.2 c9
        refine j_aload_n C 0 dX5_see_32 rfl 0 rfl ?_
        refine j_getR C 26 0 3 rfl rfl rfl in_X5_see_X5 (by decide) (by decide +kernel) dX5_see_33 ?_
        refine j_getI C 26 2 (shp_sig (rfl)) rfl rfl in_X5_see_X3 (by decide) (by decide +kernel) dX5_see_36 ?_
        refine j_goto C 44 dX5_see_39 (by decide) ?_
        exact j_iret C dX5_see_44 h
    · replace h := h.2 c6
      refine j_iconst (v := (-1 : Int32)) C dX5_see_18 (by decide) ?_
      exact j_iret C dX5_see_19 h
def wp_X5_forget (a1 : Int32) (σ : Mem) (Q : Int32 → Mem → Prop) : Prop :=
  wp_X5_within a1 (0 : Int32) ((σ.1 26 2)) σ (fun r2 σ1 => (¬ r2 = 0 → ∀ v4 : Int32, v4 = (σ1.1 26 2) → ∀ σ5 : Mem, σ5 = st1 σ1 26 2 a1 → Q v4 σ5) ∧ (r2 = 0 → Q (-1 : Int32) σ1))
theorem in_X5_forget_X3 : ∀ w ∈ wsX30, w ∈ wsX5_forget := fun _ h => List.mem_cons_of_mem _ (List.mem_append_right _ h)
theorem in_X5_forget_X5 : ∀ w ∈ wsX50, w ∈ wsX5_forget := fun _ h => List.mem_cons_of_mem _ (List.mem_append_left _ (List.mem_append_right _ h))
def rmX5_forget : Room := { frames := 1, cells := 0, slots := 0, locals := 22 }
theorem hdX5_forget : yX5_forget.cls = RX5 ∧ yX5_forget.cls ≠ "java/lang/invoke/MethodHandle" ∧ yX5_forget.cls ≠ "java/lang/invoke/VarHandle" ∧ (parseMethodDescriptor yX5_forget.desc).map (fun d => d.parameters.length) = some 1 := by decide +kernel
set_option maxHeartbeats 4000000 in
set_option maxRecDepth 100000 in
theorem c_X5_forget {l : Launch} {E : EE} {a1 : Int32}  {σ : Mem} {Q : Int32 → Mem → Prop} (h : wp_X5_forget a1 σ Q) : CtI l yX5_forget wsX5_forget rmX5_forget E [.ref (eA E 0), .int a1] σ Q := by
  refine metI (cc := cX5_forget) (nL := 3) (ret := (some .int)) (lv := [(0, .ref (eA E 0)), (1, .int a1)]) (by decide) rfl (Nat.le_of_ble_eq_true rfl) rfl ?_
  intro p e s m args below meth c C
  unfold wp_X5_forget at h
  refine j_iload_n C 1 dX5_forget_0 rfl 1 rfl ?_
  refine j_iconst (v := (0 : Int32)) C dX5_forget_1 (by decide) ?_
  refine j_aload_n C 0 dX5_forget_2 rfl 0 rfl ?_
  refine j_getR C 26 0 3 rfl rfl rfl in_X5_forget_X5 (by decide) (by decide +kernel) dX5_forget_3 ?_
  refine j_getI C 26 2 (shp_sig (rfl)) rfl rfl in_X5_forget_X3 (by decide) (by decide +kernel) dX5_forget_6 ?_
  refine j_callSI (As := [.int a1, .int (0 : Int32), .int (σ.1 26 2)]) (rest := []) C (c_X5_within h) (va_cwS 3 C.2.2.2.2.2.1 gX5_forget_X5_within rfl rfl rfl hdX5_within.2 ⟨Nat.le_of_ble_eq_true rfl, Nat.le_of_ble_eq_true rfl⟩) rfl rfl (Nat.le_of_ble_eq_true rfl) dX5_forget_9 (fun r2 σ1 h => ?_)
  refine j_if_ne C 17 dX5_forget_12 (by decide) (fun c3 => ?_) (fun c3 => ?_)
  · replace h := h.1 c3
    refine j_aload_n C 0 dX5_forget_17 rfl 0 rfl ?_
    refine j_getR C 26 0 3 rfl rfl rfl in_X5_forget_X5 (by decide) (by decide +kernel) dX5_forget_18 ?_
    refine j_getI C 26 2 (shp_sig (rfl)) rfl rfl in_X5_forget_X3 (by decide) (by decide +kernel) dX5_forget_21 ?_
    refine j_topi (fun v4 ev4 => ?_)
    replace h := h v4 ev4
    refine j_istore_n (lv' := [(2, .int v4), (0, .ref (eA E 0)), (1, .int a1)]) C 2 dX5_forget_24 rfl (by decide) rfl ?_
    refine j_aload_n C 0 dX5_forget_25 rfl 1 rfl ?_
    refine j_getR C 26 0 3 rfl rfl rfl in_X5_forget_X5 (by decide) (by decide +kernel) dX5_forget_26 ?_
    refine j_iload_n C 1 dX5_forget_29 rfl 2 rfl ?_
    refine j_put C 26 2 (shp_sig (rfl)) rfl rfl in_X5_forget_X3 tyX3 tyX3_ok nmX3 (by decide) (by decide +kernel) rfl rfl rfl rfl dX5_forget_30 ?_
    refine j_mem (fun σ5 eσ5 => ?_)
    replace h := h σ5 eσ5
    refine j_iload_n C 2 dX5_forget_33 rfl 0 rfl ?_
    exact j_iret C dX5_forget_34 h
  · replace h := h.2 c3
    refine j_iconst (v := (-1 : Int32)) C dX5_forget_15 (by decide) ?_
    exact j_iret C dX5_forget_16 h
def wp_X5_isAsSeen (a1 : Int32) (a2 : Int32) (a3 : Int32) (σ : Mem) (Q : Int32 → Mem → Prop) : Prop :=
  ∀ (P26 : Int32 → Mem → Prop),
  (∀ (x4 : Int32) (σ : Mem), (((20 : Int32) ≤ x4 → wp_X3_fits 26 σ (fun r3 σ2 => (r3 = 0 ∨ r3 = 1) ∧ Q r3 σ2)) ∧ (¬ (20 : Int32) ≤ x4 → wp_X0_crown 19 (0 : Int32) σ (fun σ4 => vp_in x4 20 ∧ (∀ σ5 : Mem, σ5 = st1 σ4 61 (x4).toNatClampNeg (σ4.1 19 8) → ∀ v6 : Int32, v6 = x4 + (1 : Int32) → P26 v6 σ5)))) → P26 x4 σ) →
  wp_X0_copyFrom 19 12 σ (fun σ7 => vp_in a2 4 ∧ (vp_in a1 6 ∧ (∀ σ9 : Mem, σ9 = st1 σ7 (19 + 2 + 1 * (a2).toNatClampNeg) (a1).toNatClampNeg a3 → P26 (0 : Int32) σ9)))
theorem in_X5_isAsSeen_X0 : ∀ w ∈ wsX00, w ∈ wsX5_isAsSeen := fun _ h => List.mem_cons_of_mem _ (List.mem_append_left _ (List.mem_append_right _ h))
theorem in_X5_isAsSeen_X5 : ∀ w ∈ wsX50, w ∈ wsX5_isAsSeen := fun _ h => List.mem_cons_of_mem _ (List.mem_append_left _ (List.mem_append_left _ (List.mem_append_right _ h)))
def rmX5_isAsSeen : Room := { frames := 4, cells := 0, slots := 0, locals := 86 }
theorem hdX5_isAsSeen : yX5_isAsSeen.cls = RX5 ∧ yX5_isAsSeen.cls ≠ "java/lang/invoke/MethodHandle" ∧ yX5_isAsSeen.cls ≠ "java/lang/invoke/VarHandle" ∧ (parseMethodDescriptor yX5_isAsSeen.desc).map (fun d => d.parameters.length) = some 3 := by decide +kernel
set_option maxHeartbeats 4000000 in
set_option maxRecDepth 100000 in
theorem c_X5_isAsSeen {l : Launch} {E : EE} {a1 : Int32} {a2 : Int32} {a3 : Int32}  {σ : Mem} {Q : Int32 → Mem → Prop} (h : wp_X5_isAsSeen a1 a2 a3 σ Q) : CtI l yX5_isAsSeen wsX5_isAsSeen rmX5_isAsSeen E [.ref (eA E 0), .int a1, .int a2, .int a3] σ Q := by
  refine metI (cc := cX5_isAsSeen) (nL := 5) (ret := (some .boolean)) (lv := [(0, .ref (eA E 0)), (1, .int a1), (2, .int a2), (3, .int a3)]) (by decide) rfl (Nat.le_of_ble_eq_true rfl) rfl ?_
  intro p e s m args below meth c C
  unfold wp_X5_isAsSeen at h
  replace h := h (fun (x4 : Int32) (σ : Mem) => J E p l e rmX5_isAsSeen s m args below meth c (QI E below args s Q) 5 26 [(0, .ref (eA E 0)), (4, .int x4)] [] σ) (by
    intro x4 σ h
    refine j_iload C 4 dX5_isAsSeen_26 1 rfl ?_
    refine j_bipush (v := (20 : Int32)) C dX5_isAsSeen_28 (by decide) ?_
    refine j_icmp_ge C 61 dX5_isAsSeen_30 (by decide) (fun c1 => ?_) (fun c1 => ?_)
    · replace h := h.1 c1
      refine j_aload_n C 0 dX5_isAsSeen_61 rfl 0 rfl ?_
      refine j_getR C 26 0 3 rfl rfl rfl in_X5_isAsSeen_X5 (by decide) (by decide +kernel) dX5_isAsSeen_62 ?_
      refine j_aload_n C 0 dX5_isAsSeen_65 rfl 0 rfl ?_
      refine j_getR C 61 0 6 rfl rfl rfl in_X5_isAsSeen_X5 (by decide) (by decide +kernel) dX5_isAsSeen_66 ?_
      refine j_callVI (As := [.ref (eA E 61)]) (rest := []) C 26 (c_X3_fits (rfl) h) (cwV 1 C.2.2.2.2.2.1 gX5_isAsSeen_X3_fits rfl rfl rfl hdX3_fits ⟨Nat.le_of_ble_eq_true rfl, Nat.le_of_ble_eq_true rfl⟩) (shp_sig (rfl)) rfl rfl rfl (Nat.le_of_ble_eq_true rfl) dX5_isAsSeen_69 (fun r3 σ2 h => ?_)
      exact j_zret C dX5_isAsSeen_72 h.1 h.2
    · replace h := h.2 c1
      refine j_aload_n C 0 dX5_isAsSeen_33 rfl 0 rfl ?_
      refine j_getR C 19 0 2 rfl rfl rfl in_X5_isAsSeen_X5 (by decide) (by decide +kernel) dX5_isAsSeen_34 ?_
      refine j_iconst (v := (0 : Int32)) C dX5_isAsSeen_37 (by decide) ?_
      refine j_callVV (As := [.int (0 : Int32)]) (rest := []) C 19 (c_X0_crown (rfl) h) (cwV 1 C.2.2.2.2.2.1 gX5_isAsSeen_X0_crown rfl rfl rfl hdX0_crown ⟨Nat.le_of_ble_eq_true rfl, Nat.le_of_ble_eq_true rfl⟩) (shp_dyn (rfl)) rfl rfl rfl (Nat.le_of_ble_eq_true rfl) dX5_isAsSeen_38 (fun σ4 h => ?_)
      refine j_aload_n C 0 dX5_isAsSeen_41 rfl 0 rfl ?_
      refine j_getR C 61 0 6 rfl rfl rfl in_X5_isAsSeen_X5 (by decide) (by decide +kernel) dX5_isAsSeen_42 ?_
      refine j_iload C 4 dX5_isAsSeen_45 1 rfl ?_
      refine j_aload_n C 0 dX5_isAsSeen_47 rfl 0 rfl ?_
      refine j_getR C 19 0 2 rfl rfl rfl in_X5_isAsSeen_X5 (by decide) (by decide +kernel) dX5_isAsSeen_48 ?_
      refine j_getI C 19 8 (shp_dyn (rfl)) rfl rfl in_X5_isAsSeen_X0 (by decide) (by decide +kernel) dX5_isAsSeen_51 ?_
      refine j_iast C 61 rfl dX5_isAsSeen_54 h.1 ?_
      replace h := h.2
      refine j_mem (fun σ5 eσ5 => ?_)
      replace h := h σ5 eσ5
      obtain ⟨v6, ev6⟩ : ∃ y : Int32, y = x4 + (1 : Int32) := ⟨_, rfl⟩
      replace h := h v6 ev6
      refine j_iinc (v := v6) (lv' := [(4, .int v6), (0, .ref (eA E 0))]) C 4 dX5_isAsSeen_55 1 rfl (by rw [ev6]; rfl) (by decide) rfl ?_
      refine j_goto C 26 dX5_isAsSeen_58 (by decide) ?_
      exact j_sub (lv' := [(0, .ref (eA E 0)), (4, .int v6)]) [1, 0] rfl h)
  refine j_aload_n C 0 dX5_isAsSeen_0 rfl 0 rfl ?_
  refine j_getR C 19 0 2 rfl rfl rfl in_X5_isAsSeen_X5 (by decide) (by decide +kernel) dX5_isAsSeen_1 ?_
  refine j_aload_n C 0 dX5_isAsSeen_4 rfl 0 rfl ?_
  refine j_getR C 12 0 1 rfl rfl rfl in_X5_isAsSeen_X5 (by decide) (by decide +kernel) dX5_isAsSeen_5 ?_
  refine j_callVV (As := [.ref (eA E 12)]) (rest := []) C 19 (c_X0_copyFrom (rfl) (rfl) h) (cwV 1 C.2.2.2.2.2.1 gX5_isAsSeen_X0_copyFrom rfl rfl rfl hdX0_copyFrom ⟨Nat.le_of_ble_eq_true rfl, Nat.le_of_ble_eq_true rfl⟩) (shp_dyn (rfl)) rfl rfl rfl (Nat.le_of_ble_eq_true rfl) dX5_isAsSeen_8 (fun σ7 h => ?_)
  refine j_aload_n C 0 dX5_isAsSeen_11 rfl 0 rfl ?_
  refine j_getR C 19 0 2 rfl rfl rfl in_X5_isAsSeen_X5 (by decide) (by decide +kernel) dX5_isAsSeen_12 ?_
  refine j_getR C (19 + 1) 19 0 (shp_dyn (rfl)) rfl rfl in_X5_isAsSeen_X0 (by decide) (by decide +kernel) dX5_isAsSeen_15 ?_
  refine j_iload_n C 2 dX5_isAsSeen_18 rfl 2 rfl ?_
  obtain ⟨b8, h⟩ := h
  refine j_aald C (19 + 1) 5 (shp_dynT (rfl)) rfl rfl dX5_isAsSeen_19 b8 ?_
  refine j_iload_n C 1 dX5_isAsSeen_20 rfl 1 rfl ?_
  refine j_iload_n C 3 dX5_isAsSeen_21 rfl 3 rfl ?_
  refine j_iast C (19 + 2 + 1 * (a2).toNatClampNeg) (shp_dynR (rfl) b8) dX5_isAsSeen_22 h.1 ?_
  replace h := h.2
  refine j_mem (fun σ9 eσ9 => ?_)
  replace h := h σ9 eσ9
  refine j_iconst (v := (0 : Int32)) C dX5_isAsSeen_23 (by decide) ?_
  refine j_istore (lv' := [(4, .int (0 : Int32)), (0, .ref (eA E 0)), (1, .int a1), (2, .int a2), (3, .int a3)]) C 4 dX5_isAsSeen_24 (by decide) rfl ?_
  exact j_sub (lv' := [(0, .ref (eA E 0)), (4, .int (0 : Int32))]) [1, 0] rfl h
def wp_X5_fitting (a1 : Int32) (a2 : Int32) (σ : Mem) (Q : Int32 → Mem → Prop) : Prop :=
  ∀ (P5 : Int32 → Int32 → Mem → Prop) (P33 : Int32 → Int32 → Mem → Prop),
  (∀ (x3 : Int32) (x4 : Int32) (σ : Mem), (vp_in a2 4 ∧ (((tGreat.getD (a2).toNatClampNeg 0) < x4 → Q x3 σ) ∧ (¬ (tGreat.getD (a2).toNatClampNeg 0) < x4 → wp_X5_isAsSeen a1 a2 x4 σ (fun r3 σ2 => (r3 = 0 → P33 x3 x4 σ2) ∧ (¬ r3 = 0 → ∀ v5 : Int32, v5 = (x3 ||| ((1 : Int32) <<< (x4 &&& 31))) → P33 v5 x4 σ2))))) → P5 x3 x4 σ) →
  (∀ (x3 : Int32) (x4 : Int32) (σ : Mem), (∀ v6 : Int32, v6 = x4 + (1 : Int32) → P5 x3 v6 σ) → P33 x3 x4 σ) →
  P5 (0 : Int32) (0 : Int32) σ
def rmX5_fitting : Room := { frames := 5, cells := 0, slots := 0, locals := 110 }
theorem hdX5_fitting : yX5_fitting.cls = RX5 ∧ yX5_fitting.cls ≠ "java/lang/invoke/MethodHandle" ∧ yX5_fitting.cls ≠ "java/lang/invoke/VarHandle" ∧ (parseMethodDescriptor yX5_fitting.desc).map (fun d => d.parameters.length) = some 2 := by decide +kernel
set_option maxHeartbeats 4000000 in
set_option maxRecDepth 100000 in
theorem c_X5_fitting {l : Launch} {E : EE} {a1 : Int32} {a2 : Int32}  {σ : Mem} {Q : Int32 → Mem → Prop} (h : wp_X5_fitting a1 a2 σ Q) : CtI l yX5_fitting wsX5_fitting rmX5_fitting E [.ref (eA E 0), .int a1, .int a2] σ Q := by
  refine metI (cc := cX5_fitting) (nL := 5) (ret := (some .int)) (lv := [(0, .ref (eA E 0)), (1, .int a1), (2, .int a2)]) (by decide) rfl (Nat.le_of_ble_eq_true rfl) rfl ?_
  intro p e s m args below meth c C
  unfold wp_X5_fitting at h
  replace h := h (fun (x3 : Int32) (x4 : Int32) (σ : Mem) => J E p l e rmX5_fitting s m args below meth c (QI E below args s Q) 5 5 [(0, .ref (eA E 0)), (1, .int a1), (2, .int a2), (3, .int x3), (4, .int x4)] [] σ) (fun (x3 : Int32) (x4 : Int32) (σ : Mem) => J E p l e rmX5_fitting s m args below meth c (QI E below args s Q) 5 33 [(0, .ref (eA E 0)), (1, .int a1), (2, .int a2), (3, .int x3), (4, .int x4)] [] σ) (by
    intro x3 x4 σ h
    refine j_iload C 4 dX5_fitting_5 4 rfl ?_
    refine j_tget C 1 (by decide) (by decide +kernel) dX5_fitting_7 ?_
    refine j_iload_n C 2 dX5_fitting_10 rfl 2 rfl ?_
    refine j_tald C 1 (by decide) dX5_fitting_11 h.1 ?_
    replace h := h.2
    refine j_icmp_gt C 39 dX5_fitting_12 (by decide) (fun c1 => ?_) (fun c1 => ?_)
    · replace h := h.1 c1
      refine j_iload_n C 3 dX5_fitting_39 rfl 3 rfl ?_
      exact j_iret C dX5_fitting_40 h
    · replace h := h.2 c1
      refine j_aload_n C 0 dX5_fitting_15 rfl 0 rfl ?_
      refine j_iload_n C 1 dX5_fitting_16 rfl 1 rfl ?_
      refine j_iload_n C 2 dX5_fitting_17 rfl 2 rfl ?_
      refine j_iload C 4 dX5_fitting_18 4 rfl ?_
      refine j_callVI (As := [.int a1, .int a2, .int x4]) (rest := []) C 0 (c_X5_isAsSeen h) (cwV 3 C.2.2.2.2.2.1 gX5_fitting_X5_isAsSeen rfl rfl rfl hdX5_isAsSeen ⟨Nat.le_of_ble_eq_true rfl, Nat.le_of_ble_eq_true rfl⟩) rfl rfl rfl rfl (Nat.le_of_ble_eq_true rfl) dX5_fitting_20 (fun r3 σ2 h => ?_)
      refine j_if_eq C 33 dX5_fitting_23 (by decide) (fun c4 => ?_) (fun c4 => ?_)
      · replace h := h.1 c4
        exact j_sub (lv' := [(0, .ref (eA E 0)), (1, .int a1), (2, .int a2), (3, .int x3), (4, .int x4)]) [0, 1, 2, 3, 4] rfl h
      · replace h := h.2 c4
        refine j_iload_n C 3 dX5_fitting_26 rfl 3 rfl ?_
        refine j_iconst (v := (1 : Int32)) C dX5_fitting_27 (by decide) ?_
        refine j_iload C 4 dX5_fitting_28 4 rfl ?_
        refine j_ishl C dX5_fitting_30 ?_
        refine j_ior C dX5_fitting_31 ?_
        refine j_topi (fun v5 ev5 => ?_)
        replace h := h v5 ev5
        refine j_istore_n (lv' := [(3, .int v5), (0, .ref (eA E 0)), (1, .int a1), (2, .int a2), (4, .int x4)]) C 3 dX5_fitting_32 rfl (by decide) rfl ?_
        exact j_sub (lv' := [(0, .ref (eA E 0)), (1, .int a1), (2, .int a2), (3, .int v5), (4, .int x4)]) [1, 2, 3, 0, 4] rfl h) (by
    intro x3 x4 σ h
    obtain ⟨v6, ev6⟩ : ∃ y : Int32, y = x4 + (1 : Int32) := ⟨_, rfl⟩
    replace h := h v6 ev6
    refine j_iinc (v := v6) (lv' := [(4, .int v6), (0, .ref (eA E 0)), (1, .int a1), (2, .int a2), (3, .int x3)]) C 4 dX5_fitting_33 4 rfl (by rw [ev6]; rfl) (by decide) rfl ?_
    refine j_goto C 5 dX5_fitting_36 (by decide) ?_
    exact j_sub (lv' := [(0, .ref (eA E 0)), (1, .int a1), (2, .int a2), (3, .int x3), (4, .int v6)]) [1, 2, 3, 4, 0] rfl h)
  refine j_iconst (v := (0 : Int32)) C dX5_fitting_0 (by decide) ?_
  refine j_istore_n (lv' := [(3, .int (0 : Int32)), (0, .ref (eA E 0)), (1, .int a1), (2, .int a2)]) C 3 dX5_fitting_1 rfl (by decide) rfl ?_
  refine j_iconst (v := (0 : Int32)) C dX5_fitting_2 (by decide) ?_
  refine j_istore (lv' := [(4, .int (0 : Int32)), (3, .int (0 : Int32)), (0, .ref (eA E 0)), (1, .int a1), (2, .int a2)]) C 4 dX5_fitting_3 (by decide) rfl ?_
  exact j_sub (lv' := [(0, .ref (eA E 0)), (1, .int a1), (2, .int a2), (3, .int (0 : Int32)), (4, .int (0 : Int32))]) [2, 3, 4, 1, 0] rfl h
def wp_X5_kinds (a1 : Int32) (σ : Mem) (Q : Int32 → Mem → Prop) : Prop :=
  wp_X5_isHeir a1 σ (fun r2 σ1 => wp_X5_refusal r2 σ1 (fun r4 σ3 => (r4 = 0 → wp_X5_fitting a1 (0 : Int32) σ3 (fun r7 σ6 => Q r7 σ6)) ∧ (¬ r4 = 0 → Q r4 σ3)))
def rmX5_kinds : Room := { frames := 6, cells := 0, slots := 0, locals := 134 }
theorem hdX5_kinds : yX5_kinds.cls = RX5 ∧ yX5_kinds.cls ≠ "java/lang/invoke/MethodHandle" ∧ yX5_kinds.cls ≠ "java/lang/invoke/VarHandle" ∧ (parseMethodDescriptor yX5_kinds.desc).map (fun d => d.parameters.length) = some 1 := by decide +kernel
set_option maxHeartbeats 4000000 in
set_option maxRecDepth 100000 in
theorem c_X5_kinds {l : Launch} {E : EE} {a1 : Int32}  {σ : Mem} {Q : Int32 → Mem → Prop} (h : wp_X5_kinds a1 σ Q) : CtI l yX5_kinds wsX5_kinds rmX5_kinds E [.ref (eA E 0), .int a1] σ Q := by
  refine metI (cc := cX5_kinds) (nL := 3) (ret := (some .int)) (lv := [(0, .ref (eA E 0)), (1, .int a1)]) (by decide) rfl (Nat.le_of_ble_eq_true rfl) rfl ?_
  intro p e s m args below meth c C
  unfold wp_X5_kinds at h
  refine j_aload_n C 0 dX5_kinds_0 rfl 0 rfl ?_
  refine j_aload_n C 0 dX5_kinds_1 rfl 0 rfl ?_
  refine j_iload_n C 1 dX5_kinds_2 rfl 1 rfl ?_
  refine j_callVI (As := [.int a1]) (rest := [.ref (eA E 0)]) C 0 (c_X5_isHeir h) (cwV 1 C.2.2.2.2.2.1 gX5_kinds_X5_isHeir rfl rfl rfl hdX5_isHeir ⟨Nat.le_of_ble_eq_true rfl, Nat.le_of_ble_eq_true rfl⟩) rfl rfl rfl rfl (Nat.le_of_ble_eq_true rfl) dX5_kinds_3 (fun r2 σ1 h => ?_)
  refine j_callVI (As := [.int r2]) (rest := []) C 0 (c_X5_refusal h) (cwV 1 C.2.2.2.2.2.1 gX5_kinds_X5_refusal rfl rfl rfl hdX5_refusal ⟨Nat.le_of_ble_eq_true rfl, Nat.le_of_ble_eq_true rfl⟩) rfl rfl rfl rfl (Nat.le_of_ble_eq_true rfl) dX5_kinds_6 (fun r4 σ3 h => ?_)
  refine j_istore_n (lv' := [(2, .int r4), (0, .ref (eA E 0)), (1, .int a1)]) C 2 dX5_kinds_9 rfl (by decide) rfl ?_
  refine j_iload_n C 2 dX5_kinds_10 rfl 0 rfl ?_
  refine j_if_eq C 18 dX5_kinds_11 (by decide) (fun c5 => ?_) (fun c5 => ?_)
  · replace h := h.1 c5
    refine j_aload_n C 0 dX5_kinds_18 rfl 1 rfl ?_
    refine j_iload_n C 1 dX5_kinds_19 rfl 2 rfl ?_
    refine j_iconst (v := (0 : Int32)) C dX5_kinds_20 (by decide) ?_
    refine j_callVI (As := [.int a1, .int (0 : Int32)]) (rest := []) C 0 (c_X5_fitting h) (cwV 2 C.2.2.2.2.2.1 gX5_kinds_X5_fitting rfl rfl rfl hdX5_fitting ⟨Nat.le_of_ble_eq_true rfl, Nat.le_of_ble_eq_true rfl⟩) rfl rfl rfl rfl (Nat.le_of_ble_eq_true rfl) dX5_kinds_21 (fun r7 σ6 h => ?_)
    exact j_iret C dX5_kinds_24 h
  · replace h := h.2 c5
    refine j_iload_n C 2 dX5_kinds_14 rfl 0 rfl ?_
    refine j_goto C 24 dX5_kinds_15 (by decide) ?_
    exact j_iret C dX5_kinds_24 h
def wp_X5_springs (a1 : Int32) (σ : Mem) (Q : Int32 → Mem → Prop) : Prop :=
  wp_X5_isHeir a1 σ (fun r2 σ1 => wp_X5_refusal r2 σ1 (fun r4 σ3 => (r4 = 0 → wp_X5_fitting a1 (1 : Int32) σ3 (fun r7 σ6 => Q r7 σ6)) ∧ (¬ r4 = 0 → Q r4 σ3)))
def rmX5_springs : Room := { frames := 6, cells := 0, slots := 0, locals := 134 }
theorem hdX5_springs : yX5_springs.cls = RX5 ∧ yX5_springs.cls ≠ "java/lang/invoke/MethodHandle" ∧ yX5_springs.cls ≠ "java/lang/invoke/VarHandle" ∧ (parseMethodDescriptor yX5_springs.desc).map (fun d => d.parameters.length) = some 1 := by decide +kernel
set_option maxHeartbeats 4000000 in
set_option maxRecDepth 100000 in
theorem c_X5_springs {l : Launch} {E : EE} {a1 : Int32}  {σ : Mem} {Q : Int32 → Mem → Prop} (h : wp_X5_springs a1 σ Q) : CtI l yX5_springs wsX5_springs rmX5_springs E [.ref (eA E 0), .int a1] σ Q := by
  refine metI (cc := cX5_springs) (nL := 3) (ret := (some .int)) (lv := [(0, .ref (eA E 0)), (1, .int a1)]) (by decide) rfl (Nat.le_of_ble_eq_true rfl) rfl ?_
  intro p e s m args below meth c C
  unfold wp_X5_springs at h
  refine j_aload_n C 0 dX5_springs_0 rfl 0 rfl ?_
  refine j_aload_n C 0 dX5_springs_1 rfl 0 rfl ?_
  refine j_iload_n C 1 dX5_springs_2 rfl 1 rfl ?_
  refine j_callVI (As := [.int a1]) (rest := [.ref (eA E 0)]) C 0 (c_X5_isHeir h) (cwV 1 C.2.2.2.2.2.1 gX5_springs_X5_isHeir rfl rfl rfl hdX5_isHeir ⟨Nat.le_of_ble_eq_true rfl, Nat.le_of_ble_eq_true rfl⟩) rfl rfl rfl rfl (Nat.le_of_ble_eq_true rfl) dX5_springs_3 (fun r2 σ1 h => ?_)
  refine j_callVI (As := [.int r2]) (rest := []) C 0 (c_X5_refusal h) (cwV 1 C.2.2.2.2.2.1 gX5_springs_X5_refusal rfl rfl rfl hdX5_refusal ⟨Nat.le_of_ble_eq_true rfl, Nat.le_of_ble_eq_true rfl⟩) rfl rfl rfl rfl (Nat.le_of_ble_eq_true rfl) dX5_springs_6 (fun r4 σ3 h => ?_)
  refine j_istore_n (lv' := [(2, .int r4), (0, .ref (eA E 0)), (1, .int a1)]) C 2 dX5_springs_9 rfl (by decide) rfl ?_
  refine j_iload_n C 2 dX5_springs_10 rfl 0 rfl ?_
  refine j_if_eq C 18 dX5_springs_11 (by decide) (fun c5 => ?_) (fun c5 => ?_)
  · replace h := h.1 c5
    refine j_aload_n C 0 dX5_springs_18 rfl 1 rfl ?_
    refine j_iload_n C 1 dX5_springs_19 rfl 2 rfl ?_
    refine j_iconst (v := (1 : Int32)) C dX5_springs_20 (by decide) ?_
    refine j_callVI (As := [.int a1, .int (1 : Int32)]) (rest := []) C 0 (c_X5_fitting h) (cwV 2 C.2.2.2.2.2.1 gX5_springs_X5_fitting rfl rfl rfl hdX5_fitting ⟨Nat.le_of_ble_eq_true rfl, Nat.le_of_ble_eq_true rfl⟩) rfl rfl rfl rfl (Nat.le_of_ble_eq_true rfl) dX5_springs_21 (fun r7 σ6 h => ?_)
    exact j_iret C dX5_springs_24 h
  · replace h := h.2 c5
    refine j_iload_n C 2 dX5_springs_14 rfl 0 rfl ?_
    refine j_goto C 24 dX5_springs_15 (by decide) ?_
    exact j_iret C dX5_springs_24 h
def wp_X5_tallyKings (a1 : Int32) (σ : Mem) (Q : Int32 → Mem → Prop) : Prop :=
  ∀ (P2 : Int32 → Mem → Prop) (P28 : Int32 → Int32 → Mem → Prop) (P50 : Int32 → Int32 → Int32 → Mem → Prop) (P85 : Int32 → Int32 → Mem → Prop),
  (∀ (x2 : Int32) (σ : Mem), (((120 : Int32) ≤ x2 → P28 (0 : Int32) (0 : Int32) σ) ∧ (¬ (120 : Int32) ≤ x2 → vp_in x2 120 ∧ (∀ σ2 : Mem, σ2 = st1 σ 63 (x2).toNatClampNeg (0 : Int32) → ∀ v3 : Int32, v3 = x2 + (1 : Int32) → P2 v3 σ2))) → P2 x2 σ) →
  (∀ (x2 : Int32) (x3 : Int32) (σ : Mem), (((20 : Int32) < x3 → Q x2 σ) ∧ (¬ (20 : Int32) < x3 → wp_X5_isAsSeen a1 (1 : Int32) x3 σ (fun r6 σ5 => (r6 = 0 → P85 x2 x3 σ5) ∧ (¬ r6 = 0 → ∀ v8 : Int32, v8 = x2 + (1 : Int32) → P50 v8 x3 (0 : Int32) σ5)))) → P28 x2 x3 σ) →
  (∀ (x2 : Int32) (x3 : Int32) (x4 : Int32) (σ : Mem), (((20 : Int32) ≤ x4 → P85 x2 x3 σ) ∧ (¬ (20 : Int32) ≤ x4 → vp_in x4 20 ∧ (vp_in ((x4 * (6 : Int32)) + (σ.1 61 (x4).toNatClampNeg)) 120 ∧ (vp_in ((x4 * (6 : Int32)) + (σ.1 61 (x4).toNatClampNeg)) 120 ∧ (∀ σ10 : Mem, σ10 = st1 σ 63 (((x4 * (6 : Int32)) + (σ.1 61 (x4).toNatClampNeg))).toNatClampNeg ((σ.1 63 (((x4 * (6 : Int32)) + (σ.1 61 (x4).toNatClampNeg))).toNatClampNeg) + (1 : Int32)) → ∀ v11 : Int32, v11 = x4 + (1 : Int32) → P50 x2 x3 v11 σ10))))) → P50 x2 x3 x4 σ) →
  (∀ (x2 : Int32) (x3 : Int32) (σ : Mem), (∀ v12 : Int32, v12 = x3 + (1 : Int32) → P28 x2 v12 σ) → P85 x2 x3 σ) →
  P2 (0 : Int32) σ
theorem in_X5_tallyKings_X5 : ∀ w ∈ wsX50, w ∈ wsX5_tallyKings := fun _ h => List.mem_cons_of_mem _ (List.mem_append_left _ (List.mem_append_left _ (List.mem_append_right _ h)))
def rmX5_tallyKings : Room := { frames := 5, cells := 0, slots := 0, locals := 110 }
theorem hdX5_tallyKings : yX5_tallyKings.cls = RX5 ∧ yX5_tallyKings.cls ≠ "java/lang/invoke/MethodHandle" ∧ yX5_tallyKings.cls ≠ "java/lang/invoke/VarHandle" ∧ (parseMethodDescriptor yX5_tallyKings.desc).map (fun d => d.parameters.length) = some 1 := by decide +kernel
set_option maxHeartbeats 4000000 in
set_option maxRecDepth 100000 in
theorem c_X5_tallyKings {l : Launch} {E : EE} {a1 : Int32}  {σ : Mem} {Q : Int32 → Mem → Prop} (h : wp_X5_tallyKings a1 σ Q) : CtI l yX5_tallyKings wsX5_tallyKings rmX5_tallyKings E [.ref (eA E 0), .int a1] σ Q := by
  refine metI (cc := cX5_tallyKings) (nL := 5) (ret := (some .int)) (lv := [(0, .ref (eA E 0)), (1, .int a1)]) (by decide) rfl (Nat.le_of_ble_eq_true rfl) rfl ?_
  intro p e s m args below meth c C
  unfold wp_X5_tallyKings at h
  replace h := h (fun (x2 : Int32) (σ : Mem) => J E p l e rmX5_tallyKings s m args below meth c (QI E below args s Q) 5 2 [(0, .ref (eA E 0)), (1, .int a1), (2, .int x2)] [] σ) (fun (x2 : Int32) (x3 : Int32) (σ : Mem) => J E p l e rmX5_tallyKings s m args below meth c (QI E below args s Q) 5 28 [(0, .ref (eA E 0)), (1, .int a1), (2, .int x2), (3, .int x3)] [] σ) (fun (x2 : Int32) (x3 : Int32) (x4 : Int32) (σ : Mem) => J E p l e rmX5_tallyKings s m args below meth c (QI E below args s Q) 5 50 [(0, .ref (eA E 0)), (1, .int a1), (2, .int x2), (3, .int x3), (4, .int x4)] [] σ) (fun (x2 : Int32) (x3 : Int32) (σ : Mem) => J E p l e rmX5_tallyKings s m args below meth c (QI E below args s Q) 5 85 [(0, .ref (eA E 0)), (1, .int a1), (2, .int x2), (3, .int x3)] [] σ) (by
    intro x2 σ h
    refine j_iload_n C 2 dX5_tallyKings_2 rfl 2 rfl ?_
    refine j_aload_n C 0 dX5_tallyKings_3 rfl 0 rfl ?_
    refine j_getR C 63 0 8 rfl rfl rfl in_X5_tallyKings_X5 (by decide) (by decide +kernel) dX5_tallyKings_4 ?_
    refine j_alen C 63 1 rfl rfl rfl dX5_tallyKings_7 ?_
    refine j_icmp_ge C 24 dX5_tallyKings_8 (by decide) (fun c1 => ?_) (fun c1 => ?_)
    · replace h := h.1 c1
      refine j_iconst (v := (0 : Int32)) C dX5_tallyKings_24 (by decide) ?_
      refine j_istore_n (lv' := [(2, .int (0 : Int32)), (0, .ref (eA E 0)), (1, .int a1)]) C 2 dX5_tallyKings_25 rfl (by decide) rfl ?_
      refine j_iconst (v := (0 : Int32)) C dX5_tallyKings_26 (by decide) ?_
      refine j_istore_n (lv' := [(3, .int (0 : Int32)), (2, .int (0 : Int32)), (0, .ref (eA E 0)), (1, .int a1)]) C 3 dX5_tallyKings_27 rfl (by decide) rfl ?_
      exact j_sub (lv' := [(0, .ref (eA E 0)), (1, .int a1), (2, .int (0 : Int32)), (3, .int (0 : Int32))]) [2, 3, 1, 0] rfl h
    · replace h := h.2 c1
      refine j_aload_n C 0 dX5_tallyKings_11 rfl 0 rfl ?_
      refine j_getR C 63 0 8 rfl rfl rfl in_X5_tallyKings_X5 (by decide) (by decide +kernel) dX5_tallyKings_12 ?_
      refine j_iload_n C 2 dX5_tallyKings_15 rfl 2 rfl ?_
      refine j_iconst (v := (0 : Int32)) C dX5_tallyKings_16 (by decide) ?_
      refine j_iast C 63 rfl dX5_tallyKings_17 h.1 ?_
      replace h := h.2
      refine j_mem (fun σ2 eσ2 => ?_)
      replace h := h σ2 eσ2
      obtain ⟨v3, ev3⟩ : ∃ y : Int32, y = x2 + (1 : Int32) := ⟨_, rfl⟩
      replace h := h v3 ev3
      refine j_iinc (v := v3) (lv' := [(2, .int v3), (0, .ref (eA E 0)), (1, .int a1)]) C 2 dX5_tallyKings_18 2 rfl (by rw [ev3]; rfl) (by decide) rfl ?_
      refine j_goto C 2 dX5_tallyKings_21 (by decide) ?_
      exact j_sub (lv' := [(0, .ref (eA E 0)), (1, .int a1), (2, .int v3)]) [1, 2, 0] rfl h) (by
    intro x2 x3 σ h
    refine j_iload_n C 3 dX5_tallyKings_28 rfl 3 rfl ?_
    refine j_bipush (v := (20 : Int32)) C dX5_tallyKings_29 (by decide) ?_
    refine j_icmp_gt C 91 dX5_tallyKings_31 (by decide) (fun c4 => ?_) (fun c4 => ?_)
    · replace h := h.1 c4
      refine j_iload_n C 2 dX5_tallyKings_91 rfl 2 rfl ?_
      exact j_iret C dX5_tallyKings_92 h
    · replace h := h.2 c4
      refine j_aload_n C 0 dX5_tallyKings_34 rfl 0 rfl ?_
      refine j_iload_n C 1 dX5_tallyKings_35 rfl 1 rfl ?_
      refine j_iconst (v := (1 : Int32)) C dX5_tallyKings_36 (by decide) ?_
      refine j_iload_n C 3 dX5_tallyKings_37 rfl 3 rfl ?_
      refine j_callVI (As := [.int a1, .int (1 : Int32), .int x3]) (rest := []) C 0 (c_X5_isAsSeen h) (cwV 3 C.2.2.2.2.2.1 gX5_tallyKings_X5_isAsSeen rfl rfl rfl hdX5_isAsSeen ⟨Nat.le_of_ble_eq_true rfl, Nat.le_of_ble_eq_true rfl⟩) rfl rfl rfl rfl (Nat.le_of_ble_eq_true rfl) dX5_tallyKings_38 (fun r6 σ5 h => ?_)
      refine j_if_eq C 85 dX5_tallyKings_41 (by decide) (fun c7 => ?_) (fun c7 => ?_)
      · replace h := h.1 c7
        exact j_sub (lv' := [(0, .ref (eA E 0)), (1, .int a1), (2, .int x2), (3, .int x3)]) [0, 1, 2, 3] rfl h
      · replace h := h.2 c7
        obtain ⟨v8, ev8⟩ : ∃ y : Int32, y = x2 + (1 : Int32) := ⟨_, rfl⟩
        replace h := h v8 ev8
        refine j_iinc (v := v8) (lv' := [(2, .int v8), (0, .ref (eA E 0)), (1, .int a1), (3, .int x3)]) C 2 dX5_tallyKings_44 2 rfl (by rw [ev8]; rfl) (by decide) rfl ?_
        refine j_iconst (v := (0 : Int32)) C dX5_tallyKings_47 (by decide) ?_
        refine j_istore (lv' := [(4, .int (0 : Int32)), (2, .int v8), (0, .ref (eA E 0)), (1, .int a1), (3, .int x3)]) C 4 dX5_tallyKings_48 (by decide) rfl ?_
        exact j_sub (lv' := [(0, .ref (eA E 0)), (1, .int a1), (2, .int v8), (3, .int x3), (4, .int (0 : Int32))]) [2, 3, 1, 4, 0] rfl h) (by
    intro x2 x3 x4 σ h
    refine j_iload C 4 dX5_tallyKings_50 4 rfl ?_
    refine j_bipush (v := (20 : Int32)) C dX5_tallyKings_52 (by decide) ?_
    refine j_icmp_ge C 85 dX5_tallyKings_54 (by decide) (fun c9 => ?_) (fun c9 => ?_)
    · replace h := h.1 c9
      exact j_sub (lv' := [(0, .ref (eA E 0)), (1, .int a1), (2, .int x2), (3, .int x3)]) [0, 1, 2, 3] rfl h
    · replace h := h.2 c9
      refine j_aload_n C 0 dX5_tallyKings_57 rfl 0 rfl ?_
      refine j_getR C 63 0 8 rfl rfl rfl in_X5_tallyKings_X5 (by decide) (by decide +kernel) dX5_tallyKings_58 ?_
      refine j_iload C 4 dX5_tallyKings_61 4 rfl ?_
      refine j_bipush (v := (6 : Int32)) C dX5_tallyKings_63 (by decide) ?_
      refine j_imul C dX5_tallyKings_65 ?_
      refine j_aload_n C 0 dX5_tallyKings_66 rfl 0 rfl ?_
      refine j_getR C 61 0 6 rfl rfl rfl in_X5_tallyKings_X5 (by decide) (by decide +kernel) dX5_tallyKings_67 ?_
      refine j_iload C 4 dX5_tallyKings_70 4 rfl ?_
      refine j_iald C 61 rfl dX5_tallyKings_72 h.1 ?_
      replace h := h.2
      refine j_iadd C dX5_tallyKings_73 ?_
      refine j_dup2 C dX5_tallyKings_74 rfl rfl ?_
      refine j_iald C 63 rfl dX5_tallyKings_75 h.1 ?_
      replace h := h.2
      refine j_iconst (v := (1 : Int32)) C dX5_tallyKings_76 (by decide) ?_
      refine j_iadd C dX5_tallyKings_77 ?_
      refine j_iast C 63 rfl dX5_tallyKings_78 h.1 ?_
      replace h := h.2
      refine j_mem (fun σ10 eσ10 => ?_)
      replace h := h σ10 eσ10
      obtain ⟨v11, ev11⟩ : ∃ y : Int32, y = x4 + (1 : Int32) := ⟨_, rfl⟩
      replace h := h v11 ev11
      refine j_iinc (v := v11) (lv' := [(4, .int v11), (0, .ref (eA E 0)), (1, .int a1), (2, .int x2), (3, .int x3)]) C 4 dX5_tallyKings_79 4 rfl (by rw [ev11]; rfl) (by decide) rfl ?_
      refine j_goto C 50 dX5_tallyKings_82 (by decide) ?_
      exact j_sub (lv' := [(0, .ref (eA E 0)), (1, .int a1), (2, .int x2), (3, .int x3), (4, .int v11)]) [1, 2, 3, 4, 0] rfl h) (by
    intro x2 x3 σ h
    obtain ⟨v12, ev12⟩ : ∃ y : Int32, y = x3 + (1 : Int32) := ⟨_, rfl⟩
    replace h := h v12 ev12
    refine j_iinc (v := v12) (lv' := [(3, .int v12), (0, .ref (eA E 0)), (1, .int a1), (2, .int x2)]) C 3 dX5_tallyKings_85 3 rfl (by rw [ev12]; rfl) (by decide) rfl ?_
    refine j_goto C 28 dX5_tallyKings_88 (by decide) ?_
    exact j_sub (lv' := [(0, .ref (eA E 0)), (1, .int a1), (2, .int x2), (3, .int v12)]) [1, 2, 3, 0] rfl h)
  refine j_iconst (v := (0 : Int32)) C dX5_tallyKings_0 (by decide) ?_
  refine j_istore_n (lv' := [(2, .int (0 : Int32)), (0, .ref (eA E 0)), (1, .int a1)]) C 2 dX5_tallyKings_1 rfl (by decide) rfl ?_
  exact j_sub (lv' := [(0, .ref (eA E 0)), (1, .int a1), (2, .int (0 : Int32))]) [1, 2, 0] rfl h
def wp_X5_mostTallied (a1 : Int32) (σ : Mem) (Q : Int32 → Mem → Prop) : Prop :=
  ∀ (P4 : Int32 → Int32 → Mem → Prop),
  (∀ (x2 : Int32) (x3 : Int32) (σ : Mem), (((6 : Int32) ≤ x3 → Q x2 σ) ∧ (¬ (6 : Int32) ≤ x3 → vp_in (((a1 - (1 : Int32)) * (6 : Int32)) + x3) 120 ∧ (∀ v2 : Int32, v2 = (if x2 < (σ.1 63 ((((a1 - (1 : Int32)) * (6 : Int32)) + x3)).toNatClampNeg) then (σ.1 63 ((((a1 - (1 : Int32)) * (6 : Int32)) + x3)).toNatClampNeg) else x2) → ∀ v3 : Int32, v3 = x3 + (1 : Int32) → P4 v2 v3 σ))) → P4 x2 x3 σ) →
  P4 (0 : Int32) (0 : Int32) σ
theorem in_X5_mostTallied_X5 : ∀ w ∈ wsX50, w ∈ wsX5_mostTallied := fun _ h => List.mem_cons_of_mem _ (List.mem_append_right _ h)
def rmX5_mostTallied : Room := { frames := 1, cells := 0, slots := 0, locals := 21 }
theorem hdX5_mostTallied : yX5_mostTallied.cls = RX5 ∧ yX5_mostTallied.cls ≠ "java/lang/invoke/MethodHandle" ∧ yX5_mostTallied.cls ≠ "java/lang/invoke/VarHandle" ∧ (parseMethodDescriptor yX5_mostTallied.desc).map (fun d => d.parameters.length) = some 1 := by decide +kernel
set_option maxHeartbeats 4000000 in
set_option maxRecDepth 100000 in
theorem c_X5_mostTallied {l : Launch} {E : EE} {a1 : Int32}  {σ : Mem} {Q : Int32 → Mem → Prop} (h : wp_X5_mostTallied a1 σ Q) : CtI l yX5_mostTallied wsX5_mostTallied rmX5_mostTallied E [.ref (eA E 0), .int a1] σ Q := by
  refine metI (cc := cX5_mostTallied) (nL := 4) (ret := (some .int)) (lv := [(0, .ref (eA E 0)), (1, .int a1)]) (by decide) rfl (Nat.le_of_ble_eq_true rfl) rfl ?_
  intro p e s m args below meth c C
  unfold wp_X5_mostTallied at h
  replace h := h (fun (x2 : Int32) (x3 : Int32) (σ : Mem) => J E p l e rmX5_mostTallied s m args below meth c (QI E below args s Q) 4 4 [(0, .ref (eA E 0)), (1, .int a1), (2, .int x2), (3, .int x3)] [] σ) (by
    intro x2 x3 σ h
    refine j_iload_n C 3 dX5_mostTallied_4 rfl 3 rfl ?_
    refine j_bipush (v := (6 : Int32)) C dX5_mostTallied_5 (by decide) ?_
    refine j_icmp_ge C 34 dX5_mostTallied_7 (by decide) (fun c1 => ?_) (fun c1 => ?_)
    · replace h := h.1 c1
      refine j_iload_n C 2 dX5_mostTallied_34 rfl 2 rfl ?_
      exact j_iret C dX5_mostTallied_35 h
    · replace h := h.2 c1
      refine j_iload_n C 2 dX5_mostTallied_10 rfl 2 rfl ?_
      refine j_aload_n C 0 dX5_mostTallied_11 rfl 0 rfl ?_
      refine j_getR C 63 0 8 rfl rfl rfl in_X5_mostTallied_X5 (by decide) (by decide +kernel) dX5_mostTallied_12 ?_
      refine j_iload_n C 1 dX5_mostTallied_15 rfl 1 rfl ?_
      refine j_iconst (v := (1 : Int32)) C dX5_mostTallied_16 (by decide) ?_
      refine j_isub C dX5_mostTallied_17 ?_
      refine j_bipush (v := (6 : Int32)) C dX5_mostTallied_18 (by decide) ?_
      refine j_imul C dX5_mostTallied_20 ?_
      refine j_iload_n C 3 dX5_mostTallied_21 rfl 3 rfl ?_
      refine j_iadd C dX5_mostTallied_22 ?_
      refine j_iald C 63 rfl dX5_mostTallied_23 h.1 ?_
      replace h := h.2
      refine j_mmax C (by decide +kernel) (by decide +kernel) (by decide +kernel) (by decide +kernel) (Nat.le_of_ble_eq_true rfl) (Nat.le_of_ble_eq_true rfl) dX5_mostTallied_24 ?_
      refine j_topi (fun v2 ev2 => ?_)
      replace h := h v2 ev2
      refine j_istore_n (lv' := [(2, .int v2), (0, .ref (eA E 0)), (1, .int a1), (3, .int x3)]) C 2 dX5_mostTallied_27 rfl (by decide) rfl ?_
      obtain ⟨v3, ev3⟩ : ∃ y : Int32, y = x3 + (1 : Int32) := ⟨_, rfl⟩
      replace h := h v3 ev3
      refine j_iinc (v := v3) (lv' := [(3, .int v3), (2, .int v2), (0, .ref (eA E 0)), (1, .int a1)]) C 3 dX5_mostTallied_28 3 rfl (by rw [ev3]; rfl) (by decide) rfl ?_
      refine j_goto C 4 dX5_mostTallied_31 (by decide) ?_
      exact j_sub (lv' := [(0, .ref (eA E 0)), (1, .int a1), (2, .int v2), (3, .int v3)]) [2, 3, 1, 0] rfl h)
  refine j_iconst (v := (0 : Int32)) C dX5_mostTallied_0 (by decide) ?_
  refine j_istore_n (lv' := [(2, .int (0 : Int32)), (0, .ref (eA E 0)), (1, .int a1)]) C 2 dX5_mostTallied_1 rfl (by decide) rfl ?_
  refine j_iconst (v := (0 : Int32)) C dX5_mostTallied_2 (by decide) ?_
  refine j_istore_n (lv' := [(3, .int (0 : Int32)), (2, .int (0 : Int32)), (0, .ref (eA E 0)), (1, .int a1)]) C 3 dX5_mostTallied_3 rfl (by decide) rfl ?_
  exact j_sub (lv' := [(0, .ref (eA E 0)), (1, .int a1), (2, .int (0 : Int32)), (3, .int (0 : Int32))]) [2, 3, 1, 0] rfl h
def wp_X5_ask (a1 : Int32) (a2 : Int32) (σ : Mem) (Q : Int32 → Mem → Prop) : Prop :=
  ∀ (P20 : Mem → Prop) (P21 : Int32 → Mem → Prop) (P45 : Int32 → Int32 → Int32 → Mem → Prop) (P75 : Int32 → Int32 → Int32 → Mem → Prop),
  (∀ (σ : Mem), (P21 (0 : Int32) σ) → P20 σ) →
  (∀ (s0 : Int32) (σ : Mem), (wp_X5_refusal s0 σ (fun r2 σ1 => (r2 = 0 → wp_X5_tallyKings a1 σ1 (fun r5 σ4 => P45 r5 (-4 : Int32) (1 : Int32) σ4)) ∧ (¬ r2 = 0 → Q r2 σ1))) → P21 s0 σ) →
  (∀ (x4 : Int32) (x5 : Int32) (x6 : Int32) (σ : Mem), (((20 : Int32) < x6 → wp_X5_whichOrMuch a2 x5 x4 σ (fun r8 σ7 => Q r8 σ7)) ∧ (¬ (20 : Int32) < x6 → wp_X5_mostTallied x6 σ (fun r10 σ9 => (x4 ≤ r10 → P75 x4 x5 x6 σ9) ∧ (¬ x4 ≤ r10 → P75 r10 x6 x6 σ9)))) → P45 x4 x5 x6 σ) →
  (∀ (x4 : Int32) (x5 : Int32) (x6 : Int32) (σ : Mem), (∀ v12 : Int32, v12 = x6 + (1 : Int32) → P45 x4 x5 v12 σ) → P75 x4 x5 x6 σ) →
  wp_X5_isHeir a1 σ (fun r14 σ13 => (r14 = 0 → P20 σ13) ∧ (¬ r14 = 0 → wp_X5_isWhichOrMuch a2 σ13 (fun r17 σ16 => (r17 = 0 → P20 σ16) ∧ (¬ r17 = 0 → P21 (1 : Int32) σ16))))
def rmX5_ask : Room := { frames := 6, cells := 0, slots := 0, locals := 134 }
theorem hdX5_ask : yX5_ask.cls = RX5 ∧ yX5_ask.cls ≠ "java/lang/invoke/MethodHandle" ∧ yX5_ask.cls ≠ "java/lang/invoke/VarHandle" ∧ (parseMethodDescriptor yX5_ask.desc).map (fun d => d.parameters.length) = some 2 := by decide +kernel
set_option maxHeartbeats 4000000 in
set_option maxRecDepth 100000 in
theorem c_X5_ask {l : Launch} {E : EE} {a1 : Int32} {a2 : Int32}  {σ : Mem} {Q : Int32 → Mem → Prop} (h : wp_X5_ask a1 a2 σ Q) : CtI l yX5_ask wsX5_ask rmX5_ask E [.ref (eA E 0), .int a1, .int a2] σ Q := by
  refine metI (cc := cX5_ask) (nL := 8) (ret := (some .int)) (lv := [(0, .ref (eA E 0)), (1, .int a1), (2, .int a2)]) (by decide) rfl (Nat.le_of_ble_eq_true rfl) rfl ?_
  intro p e s m args below meth c C
  unfold wp_X5_ask at h
  replace h := h (fun (σ : Mem) => J E p l e rmX5_ask s m args below meth c (QI E below args s Q) 8 20 [(0, .ref (eA E 0)), (1, .int a1), (2, .int a2)] [.ref (eA E 0)] σ) (fun (s0 : Int32) (σ : Mem) => J E p l e rmX5_ask s m args below meth c (QI E below args s Q) 8 21 [(0, .ref (eA E 0)), (1, .int a1), (2, .int a2)] [.int s0, .ref (eA E 0)] σ) (fun (x4 : Int32) (x5 : Int32) (x6 : Int32) (σ : Mem) => J E p l e rmX5_ask s m args below meth c (QI E below args s Q) 8 45 [(0, .ref (eA E 0)), (2, .int a2), (4, .int x4), (5, .int x5), (6, .int x6)] [] σ) (fun (x4 : Int32) (x5 : Int32) (x6 : Int32) (σ : Mem) => J E p l e rmX5_ask s m args below meth c (QI E below args s Q) 8 75 [(0, .ref (eA E 0)), (2, .int a2), (4, .int x4), (5, .int x5), (6, .int x6)] [] σ) (by
    intro σ h
    refine j_iconst (v := (0 : Int32)) C dX5_ask_20 (by decide) ?_
    exact j_sub (lv' := [(0, .ref (eA E 0)), (1, .int a1), (2, .int a2)]) [0, 1, 2] rfl h) (by
    intro s0 σ h
    refine j_callVI (As := [.int s0]) (rest := []) C 0 (c_X5_refusal h) (cwV 1 C.2.2.2.2.2.1 gX5_ask_X5_refusal rfl rfl rfl hdX5_refusal ⟨Nat.le_of_ble_eq_true rfl, Nat.le_of_ble_eq_true rfl⟩) rfl rfl rfl rfl (Nat.le_of_ble_eq_true rfl) dX5_ask_21 (fun r2 σ1 h => ?_)
    refine j_istore_n (lv' := [(3, .int r2), (0, .ref (eA E 0)), (1, .int a1), (2, .int a2)]) C 3 dX5_ask_24 rfl (by decide) rfl ?_
    refine j_iload_n C 3 dX5_ask_25 rfl 0 rfl ?_
    refine j_if_eq C 31 dX5_ask_26 (by decide) (fun c3 => ?_) (fun c3 => ?_)
    · replace h := h.1 c3
      refine j_aload_n C 0 dX5_ask_31 rfl 1 rfl ?_
      refine j_iload_n C 1 dX5_ask_32 rfl 2 rfl ?_
      refine j_callVI (As := [.int a1]) (rest := []) C 0 (c_X5_tallyKings h) (cwV 1 C.2.2.2.2.2.1 gX5_ask_X5_tallyKings rfl rfl rfl hdX5_tallyKings ⟨Nat.le_of_ble_eq_true rfl, Nat.le_of_ble_eq_true rfl⟩) rfl rfl rfl rfl (Nat.le_of_ble_eq_true rfl) dX5_ask_33 (fun r5 σ4 h => ?_)
      refine j_istore (lv' := [(4, .int r5), (3, .int r2), (0, .ref (eA E 0)), (1, .int a1), (2, .int a2)]) C 4 dX5_ask_36 (by decide) rfl ?_
      refine j_bipush (v := (-4 : Int32)) C dX5_ask_38 (by decide) ?_
      refine j_istore (lv' := [(5, .int (-4 : Int32)), (4, .int r5), (3, .int r2), (0, .ref (eA E 0)), (1, .int a1), (2, .int a2)]) C 5 dX5_ask_40 (by decide) rfl ?_
      refine j_iconst (v := (1 : Int32)) C dX5_ask_42 (by decide) ?_
      refine j_istore (lv' := [(6, .int (1 : Int32)), (5, .int (-4 : Int32)), (4, .int r5), (3, .int r2), (0, .ref (eA E 0)), (1, .int a1), (2, .int a2)]) C 6 dX5_ask_43 (by decide) rfl ?_
      exact j_sub (lv' := [(0, .ref (eA E 0)), (2, .int a2), (4, .int r5), (5, .int (-4 : Int32)), (6, .int (1 : Int32))]) [4, 6, 2, 1, 0] rfl h
    · replace h := h.2 c3
      refine j_iload_n C 3 dX5_ask_29 rfl 0 rfl ?_
      exact j_iret C dX5_ask_30 h) (by
    intro x4 x5 x6 σ h
    refine j_iload C 6 dX5_ask_45 4 rfl ?_
    refine j_bipush (v := (20 : Int32)) C dX5_ask_47 (by decide) ?_
    refine j_icmp_gt C 81 dX5_ask_49 (by decide) (fun c6 => ?_) (fun c6 => ?_)
    · replace h := h.1 c6
      refine j_iload_n C 2 dX5_ask_81 rfl 1 rfl ?_
      refine j_iload C 5 dX5_ask_82 3 rfl ?_
      refine j_iload C 4 dX5_ask_84 2 rfl ?_
      refine j_callSI (As := [.int a2, .int x5, .int x4]) (rest := []) C (c_X5_whichOrMuch h) (va_cwS 3 C.2.2.2.2.2.1 gX5_ask_X5_whichOrMuch rfl rfl rfl hdX5_whichOrMuch.2 ⟨Nat.le_of_ble_eq_true rfl, Nat.le_of_ble_eq_true rfl⟩) rfl rfl (Nat.le_of_ble_eq_true rfl) dX5_ask_86 (fun r8 σ7 h => ?_)
      exact j_iret C dX5_ask_89 h
    · replace h := h.2 c6
      refine j_aload_n C 0 dX5_ask_52 rfl 0 rfl ?_
      refine j_iload C 6 dX5_ask_53 4 rfl ?_
      refine j_callVI (As := [.int x6]) (rest := []) C 0 (c_X5_mostTallied h) (cwV 1 C.2.2.2.2.2.1 gX5_ask_X5_mostTallied rfl rfl rfl hdX5_mostTallied ⟨Nat.le_of_ble_eq_true rfl, Nat.le_of_ble_eq_true rfl⟩) rfl rfl rfl rfl (Nat.le_of_ble_eq_true rfl) dX5_ask_55 (fun r10 σ9 h => ?_)
      refine j_istore (lv' := [(7, .int r10), (0, .ref (eA E 0)), (2, .int a2), (4, .int x4), (5, .int x5), (6, .int x6)]) C 7 dX5_ask_58 (by decide) rfl ?_
      refine j_iload C 7 dX5_ask_60 0 rfl ?_
      refine j_iload C 4 dX5_ask_62 3 rfl ?_
      refine j_icmp_ge C 75 dX5_ask_64 (by decide) (fun c11 => ?_) (fun c11 => ?_)
      · replace h := h.1 c11
        exact j_sub (lv' := [(0, .ref (eA E 0)), (2, .int a2), (4, .int x4), (5, .int x5), (6, .int x6)]) [1, 2, 3, 4, 5] rfl h
      · replace h := h.2 c11
        refine j_iload C 7 dX5_ask_67 0 rfl ?_
        refine j_istore (lv' := [(4, .int r10), (7, .int r10), (0, .ref (eA E 0)), (2, .int a2), (5, .int x5), (6, .int x6)]) C 4 dX5_ask_69 (by decide) rfl ?_
        refine j_iload C 6 dX5_ask_71 5 rfl ?_
        refine j_istore (lv' := [(5, .int x6), (4, .int r10), (7, .int r10), (0, .ref (eA E 0)), (2, .int a2), (6, .int x6)]) C 5 dX5_ask_73 (by decide) rfl ?_
        exact j_sub (lv' := [(0, .ref (eA E 0)), (2, .int a2), (4, .int r10), (5, .int x6), (6, .int x6)]) [3, 4, 1, 0, 5] rfl h) (by
    intro x4 x5 x6 σ h
    obtain ⟨v12, ev12⟩ : ∃ y : Int32, y = x6 + (1 : Int32) := ⟨_, rfl⟩
    replace h := h v12 ev12
    refine j_iinc (v := v12) (lv' := [(6, .int v12), (0, .ref (eA E 0)), (2, .int a2), (4, .int x4), (5, .int x5)]) C 6 dX5_ask_75 4 rfl (by rw [ev12]; rfl) (by decide) rfl ?_
    refine j_goto C 45 dX5_ask_78 (by decide) ?_
    exact j_sub (lv' := [(0, .ref (eA E 0)), (2, .int a2), (4, .int x4), (5, .int x5), (6, .int v12)]) [1, 2, 3, 4, 0] rfl h)
  refine j_aload_n C 0 dX5_ask_0 rfl 0 rfl ?_
  refine j_aload_n C 0 dX5_ask_1 rfl 0 rfl ?_
  refine j_iload_n C 1 dX5_ask_2 rfl 1 rfl ?_
  refine j_callVI (As := [.int a1]) (rest := [.ref (eA E 0)]) C 0 (c_X5_isHeir h) (cwV 1 C.2.2.2.2.2.1 gX5_ask_X5_isHeir rfl rfl rfl hdX5_isHeir ⟨Nat.le_of_ble_eq_true rfl, Nat.le_of_ble_eq_true rfl⟩) rfl rfl rfl rfl (Nat.le_of_ble_eq_true rfl) dX5_ask_3 (fun r14 σ13 h => ?_)
  refine j_if_eq C 20 dX5_ask_6 (by decide) (fun c15 => ?_) (fun c15 => ?_)
  · replace h := h.1 c15
    exact j_sub (lv' := [(0, .ref (eA E 0)), (1, .int a1), (2, .int a2)]) [0, 1, 2] rfl h
  · replace h := h.2 c15
    refine j_iload_n C 2 dX5_ask_9 rfl 2 rfl ?_
    refine j_callSI (As := [.int a2]) (rest := [.ref (eA E 0)]) C (c_X5_isWhichOrMuch h) (va_cwS 1 C.2.2.2.2.2.1 gX5_ask_X5_isWhichOrMuch rfl rfl rfl hdX5_isWhichOrMuch.2 ⟨Nat.le_of_ble_eq_true rfl, Nat.le_of_ble_eq_true rfl⟩) rfl rfl (Nat.le_of_ble_eq_true rfl) dX5_ask_10 (fun r17 σ16 h => ?_)
    refine j_if_eq C 20 dX5_ask_13 (by decide) (fun c18 => ?_) (fun c18 => ?_)
    · replace h := h.1 c18
      exact j_sub (lv' := [(0, .ref (eA E 0)), (1, .int a1), (2, .int a2)]) [0, 1, 2] rfl h
    · replace h := h.2 c18
      refine j_iconst (v := (1 : Int32)) C dX5_ask_16 (by decide) ?_
      refine j_goto C 21 dX5_ask_17 (by decide) ?_
      exact j_sub (lv' := [(0, .ref (eA E 0)), (1, .int a1), (2, .int a2)]) [0, 1, 2] rfl h
def wp_X5_drift (a1 : Int32) (a2 : Int32) (a3 : Int32) (σ : Mem) (Q : Int32 → Mem → Prop) : Prop :=
  ∀ (P22 : Mem → Prop) (P23 : Int32 → Mem → Prop) (P53 : Int32 → Int32 → Mem → Prop),
  (∀ (σ : Mem), (P23 (0 : Int32) σ) → P22 σ) →
  (∀ (s0 : Int32) (σ : Mem), (wp_X5_refusal s0 σ (fun r2 σ1 => (r2 = 0 → wp_X0_copyFrom 19 12 σ1 (fun σ4 => P53 a1 (0 : Int32) σ4)) ∧ (¬ r2 = 0 → Q r2 σ1))) → P23 s0 σ) →
  (∀ (x5 : Int32) (x6 : Int32) (σ : Mem), ((a2 ≤ x6 → (¬ a3 = 0 → Q ((σ.1 19 7) - (σ.1 12 7)) σ) ∧ (a3 = 0 → Q (σ.1 19 4) σ)) ∧ (¬ a2 ≤ x6 → ∀ v7 : Int32, v7 = ((x5 * (1103515245 : Int32)) + (12345 : Int32)) → ∀ σ8 : Mem, σ8 = st1 σ 19 3 ((((v7).toUInt32 >>> (((16 : Int32)).toUInt32 &&& Int32.toUInt32 31)).toInt32 &&& (32767 : Int32)) - (((v7).toUInt32 >>> (((16 : Int32)).toUInt32 &&& Int32.toUInt32 31)).toInt32 &&& (32767 : Int32)) / (10 : Int32) * (10 : Int32)) → wp_X0_crown 19 (0 : Int32) σ8 (fun σ9 => ∀ v10 : Int32, v10 = x6 + (1 : Int32) → P53 v7 v10 σ9))) → P53 x5 x6 σ) →
  wp_X5_within a2 (1 : Int32) (60 : Int32) σ (fun r12 σ11 => (r12 = 0 → P22 σ11) ∧ (¬ r12 = 0 → wp_X5_isWhichOrMuch a3 σ11 (fun r15 σ14 => (r15 = 0 → P22 σ14) ∧ (¬ r15 = 0 → P23 (1 : Int32) σ14))))
theorem in_X5_drift_X0 : ∀ w ∈ wsX00, w ∈ wsX5_drift := fun _ h => List.mem_cons_of_mem _ (List.mem_append_right _ h)
theorem in_X5_drift_X5 : ∀ w ∈ wsX50, w ∈ wsX5_drift := fun _ h => List.mem_cons_of_mem _ (List.mem_append_left _ (List.mem_append_right _ h))
def rmX5_drift : Room := { frames := 4, cells := 0, slots := 0, locals := 86 }
theorem hdX5_drift : yX5_drift.cls = RX5 ∧ yX5_drift.cls ≠ "java/lang/invoke/MethodHandle" ∧ yX5_drift.cls ≠ "java/lang/invoke/VarHandle" ∧ (parseMethodDescriptor yX5_drift.desc).map (fun d => d.parameters.length) = some 3 := by decide +kernel
set_option maxHeartbeats 4000000 in
set_option maxRecDepth 100000 in
theorem c_X5_drift {l : Launch} {E : EE} {a1 : Int32} {a2 : Int32} {a3 : Int32}  {σ : Mem} {Q : Int32 → Mem → Prop} (h : wp_X5_drift a1 a2 a3 σ Q) : CtI l yX5_drift wsX5_drift rmX5_drift E [.ref (eA E 0), .int a1, .int a2, .int a3] σ Q := by
  refine metI (cc := cX5_drift) (nL := 7) (ret := (some .int)) (lv := [(0, .ref (eA E 0)), (1, .int a1), (2, .int a2), (3, .int a3)]) (by decide) rfl (Nat.le_of_ble_eq_true rfl) rfl ?_
  intro p e s m args below meth c C
  unfold wp_X5_drift at h
  replace h := h (fun (σ : Mem) => J E p l e rmX5_drift s m args below meth c (QI E below args s Q) 7 22 [(0, .ref (eA E 0)), (1, .int a1), (2, .int a2), (3, .int a3)] [.ref (eA E 0)] σ) (fun (s0 : Int32) (σ : Mem) => J E p l e rmX5_drift s m args below meth c (QI E below args s Q) 7 23 [(0, .ref (eA E 0)), (1, .int a1), (2, .int a2), (3, .int a3)] [.int s0, .ref (eA E 0)] σ) (fun (x5 : Int32) (x6 : Int32) (σ : Mem) => J E p l e rmX5_drift s m args below meth c (QI E below args s Q) 7 53 [(0, .ref (eA E 0)), (2, .int a2), (3, .int a3), (5, .int x5), (6, .int x6)] [] σ) (by
    intro σ h
    refine j_iconst (v := (0 : Int32)) C dX5_drift_22 (by decide) ?_
    exact j_sub (lv' := [(0, .ref (eA E 0)), (1, .int a1), (2, .int a2), (3, .int a3)]) [0, 1, 2, 3] rfl h) (by
    intro s0 σ h
    refine j_callVI (As := [.int s0]) (rest := []) C 0 (c_X5_refusal h) (cwV 1 C.2.2.2.2.2.1 gX5_drift_X5_refusal rfl rfl rfl hdX5_refusal ⟨Nat.le_of_ble_eq_true rfl, Nat.le_of_ble_eq_true rfl⟩) rfl rfl rfl rfl (Nat.le_of_ble_eq_true rfl) dX5_drift_23 (fun r2 σ1 h => ?_)
    refine j_istore (lv' := [(4, .int r2), (0, .ref (eA E 0)), (1, .int a1), (2, .int a2), (3, .int a3)]) C 4 dX5_drift_26 (by decide) rfl ?_
    refine j_iload C 4 dX5_drift_28 0 rfl ?_
    refine j_if_eq C 36 dX5_drift_30 (by decide) (fun c3 => ?_) (fun c3 => ?_)
    · replace h := h.1 c3
      refine j_aload_n C 0 dX5_drift_36 rfl 1 rfl ?_
      refine j_getR C 19 0 2 rfl rfl rfl in_X5_drift_X5 (by decide) (by decide +kernel) dX5_drift_37 ?_
      refine j_aload_n C 0 dX5_drift_40 rfl 1 rfl ?_
      refine j_getR C 12 0 1 rfl rfl rfl in_X5_drift_X5 (by decide) (by decide +kernel) dX5_drift_41 ?_
      refine j_callVV (As := [.ref (eA E 12)]) (rest := []) C 19 (c_X0_copyFrom (rfl) (rfl) h) (cwV 1 C.2.2.2.2.2.1 gX5_drift_X0_copyFrom rfl rfl rfl hdX0_copyFrom ⟨Nat.le_of_ble_eq_true rfl, Nat.le_of_ble_eq_true rfl⟩) (shp_dyn (rfl)) rfl rfl rfl (Nat.le_of_ble_eq_true rfl) dX5_drift_44 (fun σ4 h => ?_)
      refine j_iload_n C 1 dX5_drift_47 rfl 2 rfl ?_
      refine j_istore (lv' := [(5, .int a1), (4, .int r2), (0, .ref (eA E 0)), (1, .int a1), (2, .int a2), (3, .int a3)]) C 5 dX5_drift_48 (by decide) rfl ?_
      refine j_iconst (v := (0 : Int32)) C dX5_drift_50 (by decide) ?_
      refine j_istore (lv' := [(6, .int (0 : Int32)), (5, .int a1), (4, .int r2), (0, .ref (eA E 0)), (1, .int a1), (2, .int a2), (3, .int a3)]) C 6 dX5_drift_51 (by decide) rfl ?_
      exact j_sub (lv' := [(0, .ref (eA E 0)), (2, .int a2), (3, .int a3), (5, .int a1), (6, .int (0 : Int32))]) [3, 5, 6, 1, 0] rfl h
    · replace h := h.2 c3
      refine j_iload C 4 dX5_drift_33 0 rfl ?_
      exact j_iret C dX5_drift_35 h) (by
    intro x5 x6 σ h
    refine j_iload C 6 dX5_drift_53 4 rfl ?_
    refine j_iload_n C 2 dX5_drift_55 rfl 1 rfl ?_
    refine j_icmp_ge C 103 dX5_drift_56 (by decide) (fun c5 => ?_) (fun c5 => ?_)
    · replace h := h.1 c5
      refine j_iload_n C 3 dX5_drift_103 rfl 2 rfl ?_
      refine j_if_ne C 117 dX5_drift_104 (by decide) (fun c6 => ?_) (fun c6 => ?_)
      · replace h := h.1 c6
        refine j_aload_n C 0 dX5_drift_117 rfl 0 rfl ?_
        refine j_getR C 19 0 2 rfl rfl rfl in_X5_drift_X5 (by decide) (by decide +kernel) dX5_drift_118 ?_
        refine j_getI C 19 7 (shp_dyn (rfl)) rfl rfl in_X5_drift_X0 (by decide) (by decide +kernel) dX5_drift_121 ?_
        refine j_aload_n C 0 dX5_drift_124 rfl 0 rfl ?_
        refine j_getR C 12 0 1 rfl rfl rfl in_X5_drift_X5 (by decide) (by decide +kernel) dX5_drift_125 ?_
        refine j_getI C 12 7 (shp_dyn (rfl)) rfl rfl in_X5_drift_X0 (by decide) (by decide +kernel) dX5_drift_128 ?_
        refine j_isub C dX5_drift_131 ?_
        exact j_iret C dX5_drift_132 h
      · replace h := h.2 c6
        refine j_aload_n C 0 dX5_drift_107 rfl 0 rfl ?_
        refine j_getR C 19 0 2 rfl rfl rfl in_X5_drift_X5 (by decide) (by decide +kernel) dX5_drift_108 ?_
        refine j_getI C 19 4 (shp_dyn (rfl)) rfl rfl in_X5_drift_X0 (by decide) (by decide +kernel) dX5_drift_111 ?_
        refine j_goto C 132 dX5_drift_114 (by decide) ?_
        exact j_iret C dX5_drift_132 h
    · replace h := h.2 c5
      refine j_iload C 5 dX5_drift_59 3 rfl ?_
      refine j_ldc C (1103515245 : Int32) dX5_drift_61 (by decide +kernel) ?_
      refine j_imul C dX5_drift_63 ?_
      refine j_sipush (v := (12345 : Int32)) C dX5_drift_64 (by decide) ?_
      refine j_iadd C dX5_drift_67 ?_
      refine j_topi (fun v7 ev7 => ?_)
      replace h := h v7 ev7
      refine j_istore (lv' := [(5, .int v7), (0, .ref (eA E 0)), (2, .int a2), (3, .int a3), (6, .int x6)]) C 5 dX5_drift_68 (by decide) rfl ?_
      refine j_aload_n C 0 dX5_drift_70 rfl 1 rfl ?_
      refine j_getR C 19 0 2 rfl rfl rfl in_X5_drift_X5 (by decide) (by decide +kernel) dX5_drift_71 ?_
      refine j_iload C 5 dX5_drift_74 0 rfl ?_
      refine j_bipush (v := (16 : Int32)) C dX5_drift_76 (by decide) ?_
      refine j_iushr C dX5_drift_78 rfl ?_
      refine j_sipush (v := (32767 : Int32)) C dX5_drift_79 (by decide) ?_
      refine j_iand C dX5_drift_82 ?_
      refine j_bipush (v := (10 : Int32)) C dX5_drift_83 (by decide) ?_
      refine j_irem C dX5_drift_85 (by decide) ?_
      refine j_put C 19 3 (shp_dyn (rfl)) rfl rfl in_X5_drift_X0 tyX0 tyX0_ok nmX0 (by decide) (by decide +kernel) rfl rfl rfl rfl dX5_drift_86 ?_
      refine j_mem (fun σ8 eσ8 => ?_)
      replace h := h σ8 eσ8
      refine j_aload_n C 0 dX5_drift_89 rfl 1 rfl ?_
      refine j_getR C 19 0 2 rfl rfl rfl in_X5_drift_X5 (by decide) (by decide +kernel) dX5_drift_90 ?_
      refine j_iconst (v := (0 : Int32)) C dX5_drift_93 (by decide) ?_
      refine j_callVV (As := [.int (0 : Int32)]) (rest := []) C 19 (c_X0_crown (rfl) h) (cwV 1 C.2.2.2.2.2.1 gX5_drift_X0_crown rfl rfl rfl hdX0_crown ⟨Nat.le_of_ble_eq_true rfl, Nat.le_of_ble_eq_true rfl⟩) (shp_dyn (rfl)) rfl rfl rfl (Nat.le_of_ble_eq_true rfl) dX5_drift_94 (fun σ9 h => ?_)
      obtain ⟨v10, ev10⟩ : ∃ y : Int32, y = x6 + (1 : Int32) := ⟨_, rfl⟩
      replace h := h v10 ev10
      refine j_iinc (v := v10) (lv' := [(6, .int v10), (5, .int v7), (0, .ref (eA E 0)), (2, .int a2), (3, .int a3)]) C 6 dX5_drift_97 4 rfl (by rw [ev10]; rfl) (by decide) rfl ?_
      refine j_goto C 53 dX5_drift_100 (by decide) ?_
      exact j_sub (lv' := [(0, .ref (eA E 0)), (2, .int a2), (3, .int a3), (5, .int v7), (6, .int v10)]) [2, 3, 4, 1, 0] rfl h)
  refine j_aload_n C 0 dX5_drift_0 rfl 0 rfl ?_
  refine j_iload_n C 2 dX5_drift_1 rfl 2 rfl ?_
  refine j_iconst (v := (1 : Int32)) C dX5_drift_2 (by decide) ?_
  refine j_bipush (v := (60 : Int32)) C dX5_drift_3 (by decide) ?_
  refine j_callSI (As := [.int a2, .int (1 : Int32), .int (60 : Int32)]) (rest := [.ref (eA E 0)]) C (c_X5_within h) (va_cwS 3 C.2.2.2.2.2.1 gX5_drift_X5_within rfl rfl rfl hdX5_within.2 ⟨Nat.le_of_ble_eq_true rfl, Nat.le_of_ble_eq_true rfl⟩) rfl rfl (Nat.le_of_ble_eq_true rfl) dX5_drift_5 (fun r12 σ11 h => ?_)
  refine j_if_eq C 22 dX5_drift_8 (by decide) (fun c13 => ?_) (fun c13 => ?_)
  · replace h := h.1 c13
    exact j_sub (lv' := [(0, .ref (eA E 0)), (1, .int a1), (2, .int a2), (3, .int a3)]) [0, 1, 2, 3] rfl h
  · replace h := h.2 c13
    refine j_iload_n C 3 dX5_drift_11 rfl 3 rfl ?_
    refine j_callSI (As := [.int a3]) (rest := [.ref (eA E 0)]) C (c_X5_isWhichOrMuch h) (va_cwS 1 C.2.2.2.2.2.1 gX5_drift_X5_isWhichOrMuch rfl rfl rfl hdX5_isWhichOrMuch.2 ⟨Nat.le_of_ble_eq_true rfl, Nat.le_of_ble_eq_true rfl⟩) rfl rfl (Nat.le_of_ble_eq_true rfl) dX5_drift_12 (fun r15 σ14 h => ?_)
    refine j_if_eq C 22 dX5_drift_15 (by decide) (fun c16 => ?_) (fun c16 => ?_)
    · replace h := h.1 c16
      exact j_sub (lv' := [(0, .ref (eA E 0)), (1, .int a1), (2, .int a2), (3, .int a3)]) [0, 1, 2, 3] rfl h
    · replace h := h.2 c16
      refine j_iconst (v := (1 : Int32)) C dX5_drift_18 (by decide) ?_
      refine j_goto C 23 dX5_drift_19 (by decide) ?_
      exact j_sub (lv' := [(0, .ref (eA E 0)), (1, .int a1), (2, .int a2), (3, .int a3)]) [0, 1, 2, 3] rfl h
def wp_X5_keep (a1 : Int32) (σ : Mem) (Q : Int32 → Mem → Prop) : Prop :=
  ∀ (P30 : Int32 → Mem → Prop),
  (∀ (s0 : Int32) (σ : Mem), (vp_in a1 2 ∧ (∀ σ1 : Mem, σ1 = st1 σ (30 + 11 * (a1).toNatClampNeg) 2 (1 : Int32) → wp_X0_copyFrom ((30 + 11 * (a1).toNatClampNeg) + 1) 12 σ1 (fun σ2 => wp_X3_copyFrom ((30 + 11 * (a1).toNatClampNeg) + 8) 26 σ2 (fun σ3 => Q s0 σ3)))) → P30 s0 σ) →
  wp_X5_within a1 (0 : Int32) (1 : Int32) σ (fun r5 σ4 => (¬ r5 = 0 → vp_in a1 2 ∧ (((σ4.1 (30 + 11 * (a1).toNatClampNeg) 2) = 0 → P30 (0 : Int32) σ4) ∧ (¬ (σ4.1 (30 + 11 * (a1).toNatClampNeg) 2) = 0 → P30 (1 : Int32) σ4))) ∧ (r5 = 0 → Q (-1 : Int32) σ4))
theorem in_X5_keep_X1 : ∀ w ∈ wsX10, w ∈ wsX5_keep := fun _ h => List.mem_cons_of_mem _ (List.mem_append_left _ (List.mem_append_left _ (List.mem_append_right _ h)))
theorem in_X5_keep_X5 : ∀ w ∈ wsX50, w ∈ wsX5_keep := fun _ h => List.mem_cons_of_mem _ (List.mem_append_left _ (List.mem_append_left _ (List.mem_append_left _ (List.mem_append_right _ h))))
def rmX5_keep : Room := { frames := 2, cells := 0, slots := 0, locals := 82 }
theorem hdX5_keep : yX5_keep.cls = RX5 ∧ yX5_keep.cls ≠ "java/lang/invoke/MethodHandle" ∧ yX5_keep.cls ≠ "java/lang/invoke/VarHandle" ∧ (parseMethodDescriptor yX5_keep.desc).map (fun d => d.parameters.length) = some 1 := by decide +kernel
set_option maxHeartbeats 4000000 in
set_option maxRecDepth 100000 in
theorem c_X5_keep {l : Launch} {E : EE} {a1 : Int32}  {σ : Mem} {Q : Int32 → Mem → Prop} (h : wp_X5_keep a1 σ Q) : CtI l yX5_keep wsX5_keep rmX5_keep E [.ref (eA E 0), .int a1] σ Q := by
  refine metI (cc := cX5_keep) (nL := 4) (ret := (some .int)) (lv := [(0, .ref (eA E 0)), (1, .int a1)]) (by decide) rfl (Nat.le_of_ble_eq_true rfl) rfl ?_
  intro p e s m args below meth c C
  unfold wp_X5_keep at h
  replace h := h (fun (s0 : Int32) (σ : Mem) => J E p l e rmX5_keep s m args below meth c (QI E below args s Q) 4 30 [(0, .ref (eA E 0)), (2, .ref (eA E (30 + 11 * (a1).toNatClampNeg)))] [.int s0] σ) (by
    intro s0 σ h
    obtain ⟨b4, h⟩ := h
    refine j_istore_n (lv' := [(3, .int s0), (0, .ref (eA E 0)), (2, .ref (eA E (30 + 11 * (a1).toNatClampNeg)))]) C 3 dX5_keep_30 rfl (by decide) rfl ?_
    refine j_aload_n C 2 dX5_keep_31 rfl 2 rfl ?_
    refine j_iconst (v := (1 : Int32)) C dX5_keep_32 (by decide) ?_
    refine j_put C (30 + 11 * (a1).toNatClampNeg) 2 (shp_img b4) rfl rfl in_X5_keep_X1 tyX1 tyX1_ok nmX1 (by decide) (by decide +kernel) rfl rfl rfl rfl dX5_keep_33 ?_
    refine j_mem (fun σ1 eσ1 => ?_)
    replace h := h σ1 eσ1
    refine j_aload_n C 2 dX5_keep_36 rfl 2 rfl ?_
    refine j_getR C ((30 + 11 * (a1).toNatClampNeg) + 1) (30 + 11 * (a1).toNatClampNeg) 0 (shp_img b4) rfl rfl in_X5_keep_X1 (by decide) (by decide +kernel) dX5_keep_37 ?_
    refine j_aload_n C 0 dX5_keep_40 rfl 1 rfl ?_
    refine j_getR C 12 0 1 rfl rfl rfl in_X5_keep_X5 (by decide) (by decide +kernel) dX5_keep_41 ?_
    refine j_callVV (As := [.ref (eA E 12)]) (rest := []) C ((30 + 11 * (a1).toNatClampNeg) + 1) (c_X0_copyFrom (img_dyn b4) (rfl) h) (cwV 1 C.2.2.2.2.2.1 gX5_keep_X0_copyFrom rfl rfl rfl hdX0_copyFrom ⟨Nat.le_of_ble_eq_true rfl, Nat.le_of_ble_eq_true rfl⟩) (shp_dyn (img_dyn b4)) rfl rfl rfl (Nat.le_of_ble_eq_true rfl) dX5_keep_44 (fun σ2 h => ?_)
    refine j_aload_n C 2 dX5_keep_47 rfl 2 rfl ?_
    refine j_getR C ((30 + 11 * (a1).toNatClampNeg) + 8) (30 + 11 * (a1).toNatClampNeg) 1 (shp_img b4) rfl rfl in_X5_keep_X1 (by decide) (by decide +kernel) dX5_keep_48 ?_
    refine j_aload_n C 0 dX5_keep_51 rfl 1 rfl ?_
    refine j_getR C 26 0 3 rfl rfl rfl in_X5_keep_X5 (by decide) (by decide +kernel) dX5_keep_52 ?_
    refine j_callVV (As := [.ref (eA E 26)]) (rest := []) C ((30 + 11 * (a1).toNatClampNeg) + 8) (c_X3_copyFrom (img_sig b4) (rfl) h) (cwV 1 C.2.2.2.2.2.1 gX5_keep_X3_copyFrom rfl rfl rfl hdX3_copyFrom ⟨Nat.le_of_ble_eq_true rfl, Nat.le_of_ble_eq_true rfl⟩) (shp_sig (img_sig b4)) rfl rfl rfl (Nat.le_of_ble_eq_true rfl) dX5_keep_55 (fun σ3 h => ?_)
    refine j_iload_n C 3 dX5_keep_58 rfl 0 rfl ?_
    exact j_iret C dX5_keep_59 h)
  refine j_iload_n C 1 dX5_keep_0 rfl 1 rfl ?_
  refine j_iconst (v := (0 : Int32)) C dX5_keep_1 (by decide) ?_
  refine j_iconst (v := (1 : Int32)) C dX5_keep_2 (by decide) ?_
  refine j_callSI (As := [.int a1, .int (0 : Int32), .int (1 : Int32)]) (rest := []) C (c_X5_within h) (va_cwS 3 C.2.2.2.2.2.1 gX5_keep_X5_within rfl rfl rfl hdX5_within.2 ⟨Nat.le_of_ble_eq_true rfl, Nat.le_of_ble_eq_true rfl⟩) rfl rfl (Nat.le_of_ble_eq_true rfl) dX5_keep_3 (fun r5 σ4 h => ?_)
  refine j_if_ne C 11 dX5_keep_6 (by decide) (fun c6 => ?_) (fun c6 => ?_)
  · replace h := h.1 c6
    refine j_aload_n C 0 dX5_keep_11 rfl 0 rfl ?_
    refine j_getR C 29 0 4 rfl rfl rfl in_X5_keep_X5 (by decide) (by decide +kernel) dX5_keep_12 ?_
    refine j_iload_n C 1 dX5_keep_15 rfl 1 rfl ?_
    obtain ⟨b7, h⟩ := h
    refine j_aald C 29 3 rfl rfl rfl dX5_keep_16 b7 ?_
    refine j_astore_n (lv' := [(2, .ref (eA E (30 + 11 * (a1).toNatClampNeg))), (0, .ref (eA E 0)), (1, .int a1)]) C 2 dX5_keep_17 rfl (by decide) rfl ?_
    refine j_aload_n C 2 dX5_keep_18 rfl 0 rfl ?_
    refine j_getI C (30 + 11 * (a1).toNatClampNeg) 2 (shp_img b7) rfl rfl in_X5_keep_X1 (by decide) (by decide +kernel) dX5_keep_19 ?_
    refine j_if_eq C 29 dX5_keep_22 (by decide) (fun c8 => ?_) (fun c8 => ?_)
    · replace h := h.1 c8
      refine j_iconst (v := (0 : Int32)) C dX5_keep_29 (by decide) ?_
      exact j_sub (lv' := [(0, .ref (eA E 0)), (2, .ref (eA E (30 + 11 * (a1).toNatClampNeg)))]) [1, 0] rfl h
    · replace h := h.2 c8
      refine j_iconst (v := (1 : Int32)) C dX5_keep_25 (by decide) ?_
      refine j_goto C 30 dX5_keep_26 (by decide) ?_
      exact j_sub (lv' := [(0, .ref (eA E 0)), (2, .ref (eA E (30 + 11 * (a1).toNatClampNeg)))]) [1, 0] rfl h
  · replace h := h.2 c6
    refine j_iconst (v := (-1 : Int32)) C dX5_keep_9 (by decide) ?_
    exact j_iret C dX5_keep_10 h
def wp_X5_back (a1 : Int32) (σ : Mem) (Q : Int32 → Mem → Prop) : Prop :=
  wp_X5_within a1 (0 : Int32) (1 : Int32) σ (fun r2 σ1 => (¬ r2 = 0 → vp_in a1 2 ∧ ((¬ (σ1.1 (30 + 11 * (a1).toNatClampNeg) 2) = 0 → wp_X0_copyFrom 12 ((30 + 11 * (a1).toNatClampNeg) + 1) σ1 (fun σ6 => wp_X3_copyFrom 26 ((30 + 11 * (a1).toNatClampNeg) + 8) σ6 (fun σ7 => Q (σ7.1 12 4) σ7))) ∧ ((σ1.1 (30 + 11 * (a1).toNatClampNeg) 2) = 0 → Q (-2 : Int32) σ1))) ∧ (r2 = 0 → Q (-1 : Int32) σ1))
theorem in_X5_back_X0 : ∀ w ∈ wsX00, w ∈ wsX5_back := fun _ h => List.mem_cons_of_mem _ (List.mem_append_left _ (List.mem_append_right _ h))
theorem in_X5_back_X1 : ∀ w ∈ wsX10, w ∈ wsX5_back := fun _ h => List.mem_cons_of_mem _ (List.mem_append_left _ (List.mem_append_left _ (List.mem_append_right _ h)))
theorem in_X5_back_X5 : ∀ w ∈ wsX50, w ∈ wsX5_back := fun _ h => List.mem_cons_of_mem _ (List.mem_append_left _ (List.mem_append_left _ (List.mem_append_left _ (List.mem_append_right _ h))))
def rmX5_back : Room := { frames := 2, cells := 0, slots := 0, locals := 82 }
theorem hdX5_back : yX5_back.cls = RX5 ∧ yX5_back.cls ≠ "java/lang/invoke/MethodHandle" ∧ yX5_back.cls ≠ "java/lang/invoke/VarHandle" ∧ (parseMethodDescriptor yX5_back.desc).map (fun d => d.parameters.length) = some 1 := by decide +kernel
set_option maxHeartbeats 4000000 in
set_option maxRecDepth 100000 in
theorem c_X5_back {l : Launch} {E : EE} {a1 : Int32}  {σ : Mem} {Q : Int32 → Mem → Prop} (h : wp_X5_back a1 σ Q) : CtI l yX5_back wsX5_back rmX5_back E [.ref (eA E 0), .int a1] σ Q := by
  refine metI (cc := cX5_back) (nL := 3) (ret := (some .int)) (lv := [(0, .ref (eA E 0)), (1, .int a1)]) (by decide) rfl (Nat.le_of_ble_eq_true rfl) rfl ?_
  intro p e s m args below meth c C
  unfold wp_X5_back at h
  refine j_iload_n C 1 dX5_back_0 rfl 1 rfl ?_
  refine j_iconst (v := (0 : Int32)) C dX5_back_1 (by decide) ?_
  refine j_iconst (v := (1 : Int32)) C dX5_back_2 (by decide) ?_
  refine j_callSI (As := [.int a1, .int (0 : Int32), .int (1 : Int32)]) (rest := []) C (c_X5_within h) (va_cwS 3 C.2.2.2.2.2.1 gX5_back_X5_within rfl rfl rfl hdX5_within.2 ⟨Nat.le_of_ble_eq_true rfl, Nat.le_of_ble_eq_true rfl⟩) rfl rfl (Nat.le_of_ble_eq_true rfl) dX5_back_3 (fun r2 σ1 h => ?_)
  refine j_if_ne C 11 dX5_back_6 (by decide) (fun c3 => ?_) (fun c3 => ?_)
  · replace h := h.1 c3
    refine j_aload_n C 0 dX5_back_11 rfl 0 rfl ?_
    refine j_getR C 29 0 4 rfl rfl rfl in_X5_back_X5 (by decide) (by decide +kernel) dX5_back_12 ?_
    refine j_iload_n C 1 dX5_back_15 rfl 1 rfl ?_
    obtain ⟨b4, h⟩ := h
    refine j_aald C 29 3 rfl rfl rfl dX5_back_16 b4 ?_
    refine j_astore_n (lv' := [(2, .ref (eA E (30 + 11 * (a1).toNatClampNeg))), (0, .ref (eA E 0)), (1, .int a1)]) C 2 dX5_back_17 rfl (by decide) rfl ?_
    refine j_aload_n C 2 dX5_back_18 rfl 0 rfl ?_
    refine j_getI C (30 + 11 * (a1).toNatClampNeg) 2 (shp_img b4) rfl rfl in_X5_back_X1 (by decide) (by decide +kernel) dX5_back_19 ?_
    refine j_if_ne C 28 dX5_back_22 (by decide) (fun c5 => ?_) (fun c5 => ?_)
    · replace h := h.1 c5
      refine j_aload_n C 0 dX5_back_28 rfl 1 rfl ?_
      refine j_getR C 12 0 1 rfl rfl rfl in_X5_back_X5 (by decide) (by decide +kernel) dX5_back_29 ?_
      refine j_aload_n C 2 dX5_back_32 rfl 0 rfl ?_
      refine j_getR C ((30 + 11 * (a1).toNatClampNeg) + 1) (30 + 11 * (a1).toNatClampNeg) 0 (shp_img b4) rfl rfl in_X5_back_X1 (by decide) (by decide +kernel) dX5_back_33 ?_
      refine j_callVV (As := [.ref (eA E ((30 + 11 * (a1).toNatClampNeg) + 1))]) (rest := []) C 12 (c_X0_copyFrom (rfl) (img_dyn b4) h) (cwV 1 C.2.2.2.2.2.1 gX5_back_X0_copyFrom rfl rfl rfl hdX0_copyFrom ⟨Nat.le_of_ble_eq_true rfl, Nat.le_of_ble_eq_true rfl⟩) (shp_dyn (rfl)) rfl rfl rfl (Nat.le_of_ble_eq_true rfl) dX5_back_36 (fun σ6 h => ?_)
      refine j_aload_n C 0 dX5_back_39 rfl 1 rfl ?_
      refine j_getR C 26 0 3 rfl rfl rfl in_X5_back_X5 (by decide) (by decide +kernel) dX5_back_40 ?_
      refine j_aload_n C 2 dX5_back_43 rfl 0 rfl ?_
      refine j_getR C ((30 + 11 * (a1).toNatClampNeg) + 8) (30 + 11 * (a1).toNatClampNeg) 1 (shp_img b4) rfl rfl in_X5_back_X1 (by decide) (by decide +kernel) dX5_back_44 ?_
      refine j_callVV (As := [.ref (eA E ((30 + 11 * (a1).toNatClampNeg) + 8))]) (rest := []) C 26 (c_X3_copyFrom (rfl) (img_sig b4) h) (cwV 1 C.2.2.2.2.2.1 gX5_back_X3_copyFrom rfl rfl rfl hdX3_copyFrom ⟨Nat.le_of_ble_eq_true rfl, Nat.le_of_ble_eq_true rfl⟩) (shp_sig (rfl)) rfl rfl rfl (Nat.le_of_ble_eq_true rfl) dX5_back_47 (fun σ7 h => ?_)
      refine j_aload_n C 0 dX5_back_50 rfl 1 rfl ?_
      refine j_getR C 12 0 1 rfl rfl rfl in_X5_back_X5 (by decide) (by decide +kernel) dX5_back_51 ?_
      refine j_getI C 12 4 (shp_dyn (rfl)) rfl rfl in_X5_back_X0 (by decide) (by decide +kernel) dX5_back_54 ?_
      exact j_iret C dX5_back_57 h
    · replace h := h.2 c5
      refine j_bipush (v := (-2 : Int32)) C dX5_back_25 (by decide) ?_
      exact j_iret C dX5_back_27 h
  · replace h := h.2 c3
    refine j_iconst (v := (-1 : Int32)) C dX5_back_9 (by decide) ?_
    exact j_iret C dX5_back_10 h
def wp_X5_isSheet (a0 : Int32) (σ : Mem) (Q : Int32 → Mem → Prop) : Prop :=
  wp_X5_within a0 (0 : Int32) (3 : Int32) σ (fun r2 σ1 => (r2 = 0 ∨ r2 = 1) ∧ Q r2 σ1)
def rmX5_isSheet : Room := { frames := 1, cells := 0, slots := 0, locals := 22 }
theorem hdX5_isSheet : yX5_isSheet.cls = RX5 ∧ yX5_isSheet.cls ≠ "java/lang/invoke/MethodHandle" ∧ yX5_isSheet.cls ≠ "java/lang/invoke/VarHandle" ∧ (parseMethodDescriptor yX5_isSheet.desc).map (fun d => d.parameters.length) = some 1 := by decide +kernel
set_option maxHeartbeats 4000000 in
set_option maxRecDepth 100000 in
theorem c_X5_isSheet {l : Launch} {E : EE} {a0 : Int32}  {σ : Mem} {Q : Int32 → Mem → Prop} (h : wp_X5_isSheet a0 σ Q) : CtI l yX5_isSheet wsX5_isSheet rmX5_isSheet E [.int a0] σ Q := by
  refine metI (cc := cX5_isSheet) (nL := 1) (ret := (some .boolean)) (lv := [(0, .int a0)]) (by decide) rfl (Nat.le_of_ble_eq_true rfl) rfl ?_
  intro p e s m args below meth c C
  unfold wp_X5_isSheet at h
  refine j_iload_n C 0 dX5_isSheet_0 rfl 0 rfl ?_
  refine j_iconst (v := (0 : Int32)) C dX5_isSheet_1 (by decide) ?_
  refine j_iconst (v := (3 : Int32)) C dX5_isSheet_2 (by decide) ?_
  refine j_callSI (As := [.int a0, .int (0 : Int32), .int (3 : Int32)]) (rest := []) C (c_X5_within h) (va_cwS 3 C.2.2.2.2.2.1 gX5_isSheet_X5_within rfl rfl rfl hdX5_within.2 ⟨Nat.le_of_ble_eq_true rfl, Nat.le_of_ble_eq_true rfl⟩) rfl rfl (Nat.le_of_ble_eq_true rfl) dX5_isSheet_3 (fun r2 σ1 h => ?_)
  exact j_zret C dX5_isSheet_6 h.1 h.2
def wp_X5_isLane (a0 : Int32) (σ : Mem) (Q : Int32 → Mem → Prop) : Prop :=
  wp_X5_within a0 (0 : Int32) (2 : Int32) σ (fun r2 σ1 => (r2 = 0 ∨ r2 = 1) ∧ Q r2 σ1)
def rmX5_isLane : Room := { frames := 1, cells := 0, slots := 0, locals := 22 }
theorem hdX5_isLane : yX5_isLane.cls = RX5 ∧ yX5_isLane.cls ≠ "java/lang/invoke/MethodHandle" ∧ yX5_isLane.cls ≠ "java/lang/invoke/VarHandle" ∧ (parseMethodDescriptor yX5_isLane.desc).map (fun d => d.parameters.length) = some 1 := by decide +kernel
set_option maxHeartbeats 4000000 in
set_option maxRecDepth 100000 in
theorem c_X5_isLane {l : Launch} {E : EE} {a0 : Int32}  {σ : Mem} {Q : Int32 → Mem → Prop} (h : wp_X5_isLane a0 σ Q) : CtI l yX5_isLane wsX5_isLane rmX5_isLane E [.int a0] σ Q := by
  refine metI (cc := cX5_isLane) (nL := 1) (ret := (some .boolean)) (lv := [(0, .int a0)]) (by decide) rfl (Nat.le_of_ble_eq_true rfl) rfl ?_
  intro p e s m args below meth c C
  unfold wp_X5_isLane at h
  refine j_iload_n C 0 dX5_isLane_0 rfl 0 rfl ?_
  refine j_iconst (v := (0 : Int32)) C dX5_isLane_1 (by decide) ?_
  refine j_iconst (v := (2 : Int32)) C dX5_isLane_2 (by decide) ?_
  refine j_callSI (As := [.int a0, .int (0 : Int32), .int (2 : Int32)]) (rest := []) C (c_X5_within h) (va_cwS 3 C.2.2.2.2.2.1 gX5_isLane_X5_within rfl rfl rfl hdX5_within.2 ⟨Nat.le_of_ble_eq_true rfl, Nat.le_of_ble_eq_true rfl⟩) rfl rfl (Nat.le_of_ble_eq_true rfl) dX5_isLane_3 (fun r2 σ1 h => ?_)
  exact j_zret C dX5_isLane_6 h.1 h.2
def wp_X5_sheet (a1 : Int32) (a2 : Int32) (a3 : Int32) (σ : Mem) (Q : Int32 → Mem → Prop) : Prop :=
  wp_X5_isSheet a1 σ (fun r2 σ1 => (r2 = 0 → Q (-1 : Int32) σ1) ∧ (¬ r2 = 0 → wp_X5_isLane a2 σ1 (fun r5 σ4 => (r5 = 0 → Q (-1 : Int32) σ4) ∧ (¬ r5 = 0 → (a3 ≤ (40 : Int32) → (0 ≤ a3 → vp_in a1 4 ∧ (wp_X2_renew (53 + 2 * (a1).toNatClampNeg) a2 a3 σ4 (fun σ10 => Q (1 : Int32) σ10))) ∧ (¬ 0 ≤ a3 → Q (-14 : Int32) σ4)) ∧ (¬ a3 ≤ (40 : Int32) → Q (-1 : Int32) σ4)))))
theorem in_X5_sheet_X5 : ∀ w ∈ wsX50, w ∈ wsX5_sheet := fun _ h => List.mem_cons_of_mem _ (List.mem_append_left _ (List.mem_append_right _ h))
def rmX5_sheet : Room := { frames := 2, cells := 0, slots := 0, locals := 42 }
theorem hdX5_sheet : yX5_sheet.cls = RX5 ∧ yX5_sheet.cls ≠ "java/lang/invoke/MethodHandle" ∧ yX5_sheet.cls ≠ "java/lang/invoke/VarHandle" ∧ (parseMethodDescriptor yX5_sheet.desc).map (fun d => d.parameters.length) = some 3 := by decide +kernel
set_option maxHeartbeats 4000000 in
set_option maxRecDepth 100000 in
theorem c_X5_sheet {l : Launch} {E : EE} {a1 : Int32} {a2 : Int32} {a3 : Int32}  {σ : Mem} {Q : Int32 → Mem → Prop} (h : wp_X5_sheet a1 a2 a3 σ Q) : CtI l yX5_sheet wsX5_sheet rmX5_sheet E [.ref (eA E 0), .int a1, .int a2, .int a3] σ Q := by
  refine metI (cc := cX5_sheet) (nL := 4) (ret := (some .int)) (lv := [(0, .ref (eA E 0)), (1, .int a1), (2, .int a2), (3, .int a3)]) (by decide) rfl (Nat.le_of_ble_eq_true rfl) rfl ?_
  intro p e s m args below meth c C
  unfold wp_X5_sheet at h
  refine j_iload_n C 1 dX5_sheet_0 rfl 1 rfl ?_
  refine j_callSI (As := [.int a1]) (rest := []) C (c_X5_isSheet h) (va_cwS 1 C.2.2.2.2.2.1 gX5_sheet_X5_isSheet rfl rfl rfl hdX5_isSheet.2 ⟨Nat.le_of_ble_eq_true rfl, Nat.le_of_ble_eq_true rfl⟩) rfl rfl (Nat.le_of_ble_eq_true rfl) dX5_sheet_1 (fun r2 σ1 h => ?_)
  refine j_if_eq C 20 dX5_sheet_4 (by decide) (fun c3 => ?_) (fun c3 => ?_)
  · replace h := h.1 c3
    refine j_iconst (v := (-1 : Int32)) C dX5_sheet_20 (by decide) ?_
    exact j_iret C dX5_sheet_21 h
  · replace h := h.2 c3
    refine j_iload_n C 2 dX5_sheet_7 rfl 2 rfl ?_
    refine j_callSI (As := [.int a2]) (rest := []) C (c_X5_isLane h) (va_cwS 1 C.2.2.2.2.2.1 gX5_sheet_X5_isLane rfl rfl rfl hdX5_isLane.2 ⟨Nat.le_of_ble_eq_true rfl, Nat.le_of_ble_eq_true rfl⟩) rfl rfl (Nat.le_of_ble_eq_true rfl) dX5_sheet_8 (fun r5 σ4 h => ?_)
    refine j_if_eq C 20 dX5_sheet_11 (by decide) (fun c6 => ?_) (fun c6 => ?_)
    · replace h := h.1 c6
      refine j_iconst (v := (-1 : Int32)) C dX5_sheet_20 (by decide) ?_
      exact j_iret C dX5_sheet_21 h
    · replace h := h.2 c6
      refine j_iload_n C 3 dX5_sheet_14 rfl 3 rfl ?_
      refine j_bipush (v := (40 : Int32)) C dX5_sheet_15 (by decide) ?_
      refine j_icmp_le C 22 dX5_sheet_17 (by decide) (fun c7 => ?_) (fun c7 => ?_)
      · replace h := h.1 c7
        refine j_iload_n C 3 dX5_sheet_22 rfl 3 rfl ?_
        refine j_if_ge C 29 dX5_sheet_23 (by decide) (fun c8 => ?_) (fun c8 => ?_)
        · replace h := h.1 c8
          refine j_aload_n C 0 dX5_sheet_29 rfl 0 rfl ?_
          refine j_getR C 52 0 5 rfl rfl rfl in_X5_sheet_X5 (by decide) (by decide +kernel) dX5_sheet_30 ?_
          refine j_iload_n C 1 dX5_sheet_33 rfl 1 rfl ?_
          obtain ⟨b9, h⟩ := h
          refine j_aald C 52 4 rfl rfl rfl dX5_sheet_34 b9 ?_
          refine j_iload_n C 2 dX5_sheet_35 rfl 2 rfl ?_
          refine j_iload_n C 3 dX5_sheet_36 rfl 3 rfl ?_
          refine j_callVV (As := [.int a2, .int a3]) (rest := []) C (53 + 2 * (a1).toNatClampNeg) (c_X2_renew (she_at b9) h) (cwV 2 C.2.2.2.2.2.1 gX5_sheet_X2_renew rfl rfl rfl hdX2_renew ⟨Nat.le_of_ble_eq_true rfl, Nat.le_of_ble_eq_true rfl⟩) (shp_she (she_at b9)) rfl rfl rfl (Nat.le_of_ble_eq_true rfl) dX5_sheet_37 (fun σ10 h => ?_)
          refine j_iconst (v := (1 : Int32)) C dX5_sheet_40 (by decide) ?_
          exact j_iret C dX5_sheet_41 h
        · replace h := h.2 c8
          refine j_bipush (v := (-14 : Int32)) C dX5_sheet_26 (by decide) ?_
          exact j_iret C dX5_sheet_28 h
      · replace h := h.2 c7
        refine j_iconst (v := (-1 : Int32)) C dX5_sheet_20 (by decide) ?_
        exact j_iret C dX5_sheet_21 h
def wp_X5_lay (a1 : Int32) (a2 : Int32) (a3 : Int32) (σ : Mem) (Q : Int32 → Mem → Prop) : Prop :=
  wp_X5_isSheet a1 σ (fun r2 σ1 => (¬ r2 = 0 → vp_in a1 4 ∧ (wp_X2_faultAt (53 + 2 * (a1).toNatClampNeg) ((σ1.1 (53 + 2 * (a1).toNatClampNeg) 1)) a2 σ1 (fun r6 σ5 => (r6 = 0 → wp_X2_narrowed (53 + 2 * (a1).toNatClampNeg) a3 σ5 (fun r9 σ8 => vp_in a2 40 ∧ (∀ σ10 : Mem, σ10 = st1 σ8 ((53 + 2 * (a1).toNatClampNeg) + 1) (a2).toNatClampNeg r9 → Q (1 : Int32) σ10))) ∧ (¬ r6 = 0 → Q ((-10 : Int32) - r6) σ5)))) ∧ (r2 = 0 → Q (-1 : Int32) σ1))
theorem in_X5_lay_X2 : ∀ w ∈ wsX20, w ∈ wsX5_lay := fun _ h => List.mem_cons_of_mem _ (List.mem_append_right _ h)
theorem in_X5_lay_X5 : ∀ w ∈ wsX50, w ∈ wsX5_lay := fun _ h => List.mem_cons_of_mem _ (List.mem_append_left _ (List.mem_append_right _ h))
def rmX5_lay : Room := { frames := 2, cells := 0, slots := 0, locals := 44 }
theorem hdX5_lay : yX5_lay.cls = RX5 ∧ yX5_lay.cls ≠ "java/lang/invoke/MethodHandle" ∧ yX5_lay.cls ≠ "java/lang/invoke/VarHandle" ∧ (parseMethodDescriptor yX5_lay.desc).map (fun d => d.parameters.length) = some 3 := by decide +kernel
set_option maxHeartbeats 4000000 in
set_option maxRecDepth 100000 in
theorem c_X5_lay {l : Launch} {E : EE} {a1 : Int32} {a2 : Int32} {a3 : Int32}  {σ : Mem} {Q : Int32 → Mem → Prop} (h : wp_X5_lay a1 a2 a3 σ Q) : CtI l yX5_lay wsX5_lay rmX5_lay E [.ref (eA E 0), .int a1, .int a2, .int a3] σ Q := by
  refine metI (cc := cX5_lay) (nL := 6) (ret := (some .int)) (lv := [(0, .ref (eA E 0)), (1, .int a1), (2, .int a2), (3, .int a3)]) (by decide) rfl (Nat.le_of_ble_eq_true rfl) rfl ?_
  intro p e s m args below meth c C
  unfold wp_X5_lay at h
  refine j_iload_n C 1 dX5_lay_0 rfl 1 rfl ?_
  refine j_callSI (As := [.int a1]) (rest := []) C (c_X5_isSheet h) (va_cwS 1 C.2.2.2.2.2.1 gX5_lay_X5_isSheet rfl rfl rfl hdX5_isSheet.2 ⟨Nat.le_of_ble_eq_true rfl, Nat.le_of_ble_eq_true rfl⟩) rfl rfl (Nat.le_of_ble_eq_true rfl) dX5_lay_1 (fun r2 σ1 h => ?_)
  refine j_if_ne C 9 dX5_lay_4 (by decide) (fun c3 => ?_) (fun c3 => ?_)
  · replace h := h.1 c3
    refine j_aload_n C 0 dX5_lay_9 rfl 0 rfl ?_
    refine j_getR C 52 0 5 rfl rfl rfl in_X5_lay_X5 (by decide) (by decide +kernel) dX5_lay_10 ?_
    refine j_iload_n C 1 dX5_lay_13 rfl 1 rfl ?_
    obtain ⟨b4, h⟩ := h
    refine j_aald C 52 4 rfl rfl rfl dX5_lay_14 b4 ?_
    refine j_astore (lv' := [(4, .ref (eA E (53 + 2 * (a1).toNatClampNeg))), (0, .ref (eA E 0)), (1, .int a1), (2, .int a2), (3, .int a3)]) C 4 dX5_lay_15 (by decide) rfl ?_
    refine j_aload C 4 dX5_lay_17 0 rfl ?_
    refine j_aload C 4 dX5_lay_19 0 rfl ?_
    refine j_getI C (53 + 2 * (a1).toNatClampNeg) 1 (shp_she (she_at b4)) rfl rfl in_X5_lay_X2 (by decide) (by decide +kernel) dX5_lay_21 ?_
    refine j_iload_n C 2 dX5_lay_24 rfl 3 rfl ?_
    refine j_callVI (As := [.int (σ1.1 (53 + 2 * (a1).toNatClampNeg) 1), .int a2]) (rest := []) C (53 + 2 * (a1).toNatClampNeg) (c_X2_faultAt (she_at b4) h) (cwV 2 C.2.2.2.2.2.1 gX5_lay_X2_faultAt rfl rfl rfl hdX2_faultAt ⟨Nat.le_of_ble_eq_true rfl, Nat.le_of_ble_eq_true rfl⟩) (shp_she (she_at b4)) rfl rfl rfl (Nat.le_of_ble_eq_true rfl) dX5_lay_25 (fun r6 σ5 h => ?_)
    refine j_istore (lv' := [(5, .int r6), (4, .ref (eA E (53 + 2 * (a1).toNatClampNeg))), (0, .ref (eA E 0)), (1, .int a1), (2, .int a2), (3, .int a3)]) C 5 dX5_lay_28 (by decide) rfl ?_
    refine j_iload C 5 dX5_lay_30 0 rfl ?_
    refine j_if_eq C 41 dX5_lay_32 (by decide) (fun c7 => ?_) (fun c7 => ?_)
    · replace h := h.1 c7
      refine j_aload C 4 dX5_lay_41 1 rfl ?_
      refine j_getR C ((53 + 2 * (a1).toNatClampNeg) + 1) (53 + 2 * (a1).toNatClampNeg) 0 (shp_she (she_at b4)) rfl rfl in_X5_lay_X2 (by decide) (by decide +kernel) dX5_lay_43 ?_
      refine j_iload_n C 2 dX5_lay_46 rfl 4 rfl ?_
      refine j_aload C 4 dX5_lay_47 1 rfl ?_
      refine j_iload_n C 3 dX5_lay_49 rfl 5 rfl ?_
      refine j_callVI (As := [.int a3]) (rest := [.int a2, .ref (eA E ((53 + 2 * (a1).toNatClampNeg) + 1))]) C (53 + 2 * (a1).toNatClampNeg) (c_X2_narrowed (she_at b4) h) (cwV 1 C.2.2.2.2.2.1 gX5_lay_X2_narrowed rfl rfl rfl hdX2_narrowed ⟨Nat.le_of_ble_eq_true rfl, Nat.le_of_ble_eq_true rfl⟩) (shp_she (she_at b4)) rfl rfl rfl (Nat.le_of_ble_eq_true rfl) dX5_lay_50 (fun r9 σ8 h => ?_)
      refine j_iast C ((53 + 2 * (a1).toNatClampNeg) + 1) (shp_sheC (she_at b4)) dX5_lay_53 h.1 ?_
      replace h := h.2
      refine j_mem (fun σ10 eσ10 => ?_)
      replace h := h σ10 eσ10
      refine j_iconst (v := (1 : Int32)) C dX5_lay_54 (by decide) ?_
      exact j_iret C dX5_lay_55 h
    · replace h := h.2 c7
      refine j_bipush (v := (-10 : Int32)) C dX5_lay_35 (by decide) ?_
      refine j_iload C 5 dX5_lay_37 0 rfl ?_
      refine j_isub C dX5_lay_39 ?_
      exact j_iret C dX5_lay_40 h
  · replace h := h.2 c3
    refine j_iconst (v := (-1 : Int32)) C dX5_lay_7 (by decide) ?_
    exact j_iret C dX5_lay_8 h
def wp_X5_trains (a1 : Int32) (a2 : Int32) (σ : Mem) (Q : Int32 → Mem → Prop) : Prop :=
  wp_X0_takes 19 a1 (1 : Int32) a2 σ (fun r2 σ1 => (r2 = 0 → Q (0 : Int32) σ1) ∧ (¬ r2 = 0 → ((σ1.1 19 2) < (2 : Int32) → Q (0 : Int32) σ1) ∧ (¬ (σ1.1 19 2) < (2 : Int32) → ((σ1.1 19 5) < (999 : Int32) → vp_in a1 6 ∧ (∀ σ7 : Mem, σ7 = st1 σ1 (19 + 2 + 1 * ((1 : Int32)).toNatClampNeg) (a1).toNatClampNeg a2 → wp_X0_crown 19 (0 : Int32) σ7 (fun σ8 => Q (1 : Int32) σ8))) ∧ (¬ (σ1.1 19 5) < (999 : Int32) → Q (0 : Int32) σ1))))
theorem in_X5_trains_X0 : ∀ w ∈ wsX00, w ∈ wsX5_trains := fun _ h => List.mem_cons_of_mem _ (List.mem_append_right _ h)
theorem in_X5_trains_X5 : ∀ w ∈ wsX50, w ∈ wsX5_trains := fun _ h => List.mem_cons_of_mem _ (List.mem_append_left _ (List.mem_append_right _ h))
def rmX5_trains : Room := { frames := 4, cells := 0, slots := 0, locals := 86 }
theorem hdX5_trains : yX5_trains.cls = RX5 ∧ yX5_trains.cls ≠ "java/lang/invoke/MethodHandle" ∧ yX5_trains.cls ≠ "java/lang/invoke/VarHandle" ∧ (parseMethodDescriptor yX5_trains.desc).map (fun d => d.parameters.length) = some 2 := by decide +kernel
set_option maxHeartbeats 4000000 in
set_option maxRecDepth 100000 in
theorem c_X5_trains {l : Launch} {E : EE} {a1 : Int32} {a2 : Int32}  {σ : Mem} {Q : Int32 → Mem → Prop} (h : wp_X5_trains a1 a2 σ Q) : CtI l yX5_trains wsX5_trains rmX5_trains E [.ref (eA E 0), .int a1, .int a2] σ Q := by
  refine metI (cc := cX5_trains) (nL := 3) (ret := (some .boolean)) (lv := [(0, .ref (eA E 0)), (1, .int a1), (2, .int a2)]) (by decide) rfl (Nat.le_of_ble_eq_true rfl) rfl ?_
  intro p e s m args below meth c C
  unfold wp_X5_trains at h
  refine j_aload_n C 0 dX5_trains_0 rfl 0 rfl ?_
  refine j_getR C 19 0 2 rfl rfl rfl in_X5_trains_X5 (by decide) (by decide +kernel) dX5_trains_1 ?_
  refine j_iload_n C 1 dX5_trains_4 rfl 1 rfl ?_
  refine j_iconst (v := (1 : Int32)) C dX5_trains_5 (by decide) ?_
  refine j_iload_n C 2 dX5_trains_6 rfl 2 rfl ?_
  refine j_callVI (As := [.int a1, .int (1 : Int32), .int a2]) (rest := []) C 19 (c_X0_takes (rfl) h) (cwV 3 C.2.2.2.2.2.1 gX5_trains_X0_takes rfl rfl rfl hdX0_takes ⟨Nat.le_of_ble_eq_true rfl, Nat.le_of_ble_eq_true rfl⟩) (shp_dyn (rfl)) rfl rfl rfl (Nat.le_of_ble_eq_true rfl) dX5_trains_7 (fun r2 σ1 h => ?_)
  refine j_if_eq C 37 dX5_trains_10 (by decide) (fun c3 => ?_) (fun c3 => ?_)
  · replace h := h.1 c3
    refine j_iconst (v := (0 : Int32)) C dX5_trains_37 (by decide) ?_
    exact j_zret C dX5_trains_38 (Or.inl rfl) h
  · replace h := h.2 c3
    refine j_aload_n C 0 dX5_trains_13 rfl 0 rfl ?_
    refine j_getR C 19 0 2 rfl rfl rfl in_X5_trains_X5 (by decide) (by decide +kernel) dX5_trains_14 ?_
    refine j_getI C 19 2 (shp_dyn (rfl)) rfl rfl in_X5_trains_X0 (by decide) (by decide +kernel) dX5_trains_17 ?_
    refine j_iconst (v := (2 : Int32)) C dX5_trains_20 (by decide) ?_
    refine j_icmp_lt C 37 dX5_trains_21 (by decide) (fun c4 => ?_) (fun c4 => ?_)
    · replace h := h.1 c4
      refine j_iconst (v := (0 : Int32)) C dX5_trains_37 (by decide) ?_
      exact j_zret C dX5_trains_38 (Or.inl rfl) h
    · replace h := h.2 c4
      refine j_aload_n C 0 dX5_trains_24 rfl 0 rfl ?_
      refine j_getR C 19 0 2 rfl rfl rfl in_X5_trains_X5 (by decide) (by decide +kernel) dX5_trains_25 ?_
      refine j_getI C 19 5 (shp_dyn (rfl)) rfl rfl in_X5_trains_X0 (by decide) (by decide +kernel) dX5_trains_28 ?_
      refine j_sipush (v := (999 : Int32)) C dX5_trains_31 (by decide) ?_
      refine j_icmp_lt C 39 dX5_trains_34 (by decide) (fun c5 => ?_) (fun c5 => ?_)
      · replace h := h.1 c5
        refine j_aload_n C 0 dX5_trains_39 rfl 0 rfl ?_
        refine j_getR C 19 0 2 rfl rfl rfl in_X5_trains_X5 (by decide) (by decide +kernel) dX5_trains_40 ?_
        refine j_getR C (19 + 1) 19 0 (shp_dyn (rfl)) rfl rfl in_X5_trains_X0 (by decide) (by decide +kernel) dX5_trains_43 ?_
        refine j_iconst (v := (1 : Int32)) C dX5_trains_46 (by decide) ?_
        refine j_aald C (19 + 1) 5 (shp_dynT (rfl)) rfl rfl dX5_trains_47 (in_lit rfl) ?_
        refine j_iload_n C 1 dX5_trains_48 rfl 1 rfl ?_
        refine j_iload_n C 2 dX5_trains_49 rfl 2 rfl ?_
        refine j_iast C (19 + 2 + 1 * ((1 : Int32)).toNatClampNeg) (shp_dynR (rfl) (in_lit rfl)) dX5_trains_50 h.1 ?_
        replace h := h.2
        refine j_mem (fun σ7 eσ7 => ?_)
        replace h := h σ7 eσ7
        refine j_aload_n C 0 dX5_trains_51 rfl 0 rfl ?_
        refine j_getR C 19 0 2 rfl rfl rfl in_X5_trains_X5 (by decide) (by decide +kernel) dX5_trains_52 ?_
        refine j_iconst (v := (0 : Int32)) C dX5_trains_55 (by decide) ?_
        refine j_callVV (As := [.int (0 : Int32)]) (rest := []) C 19 (c_X0_crown (rfl) h) (cwV 1 C.2.2.2.2.2.1 gX5_trains_X0_crown rfl rfl rfl hdX0_crown ⟨Nat.le_of_ble_eq_true rfl, Nat.le_of_ble_eq_true rfl⟩) (shp_dyn (rfl)) rfl rfl rfl (Nat.le_of_ble_eq_true rfl) dX5_trains_56 (fun σ8 h => ?_)
        refine j_iconst (v := (1 : Int32)) C dX5_trains_59 (by decide) ?_
        exact j_zret C dX5_trains_60 (Or.inr rfl) h
      · replace h := h.2 c5
        refine j_iconst (v := (0 : Int32)) C dX5_trains_37 (by decide) ?_
        exact j_zret C dX5_trains_38 (Or.inl rfl) h
def wp_X5_read (a1 : Int32) (a2 : Int32) (a3 : Int32) (a4 : Int32) (σ : Mem) (Q : Int32 → Mem → Prop) : Prop :=
  ∀ (P55 : Int32 → Int32 → Int32 → Mem → Prop) (P124 : Int32 → Int32 → Int32 → Mem → Prop) (P130 : Int32 → Int32 → Mem → Prop),
  (∀ (x6 : Int32) (x7 : Int32) (x8 : Int32) (σ : Mem), (vp_in a1 4 ∧ ((a4 ≤ x8 → P130 x6 x7 σ) ∧ (¬ a4 ≤ x8 → (¬ x7 = 0 → P130 x6 x7 σ) ∧ (x7 = 0 → ∀ v3 : Int32, v3 = (a3 + ((2 : Int32) * x8)) → wp_X2_faultOfPair (53 + 2 * (a1).toNatClampNeg) a2 v3 σ (fun r5 σ4 => (¬ r5 = 0 → P124 x6 r5 x8 σ4) ∧ (r5 = 0 → vp_in v3 40 ∧ (vp_in (v3 + (1 : Int32)) 40 ∧ (wp_X5_trains ((σ4.1 ((53 + 2 * (a1).toNatClampNeg) + 1) (v3).toNatClampNeg)) ((σ4.1 ((53 + 2 * (a1).toNatClampNeg) + 1) ((v3 + (1 : Int32))).toNatClampNeg)) σ4 (fun r8 σ7 => (¬ r8 = 0 → ∀ v10 : Int32, v10 = x6 + (1 : Int32) → P124 v10 r5 x8 σ7) ∧ (r8 = 0 → Q ((-20 : Int32) - x8) σ7)))))))))) → P55 x6 x7 x8 σ) →
  (∀ (x6 : Int32) (x7 : Int32) (x8 : Int32) (σ : Mem), (vp_in a1 4 ∧ (∀ v11 : Int32, v11 = x8 + (1 : Int32) → P55 x6 x7 v11 σ)) → P124 x6 x7 x8 σ) →
  (∀ (x6 : Int32) (x7 : Int32) (σ : Mem), (wp_X0_copyFrom 12 19 σ (fun σ12 => ∀ σ13 : Mem, σ13 = st1 σ12 0 9 x7 → Q x6 σ13)) → P130 x6 x7 σ) →
  wp_X5_isSheet a1 σ (fun r15 σ14 => (r15 = 0 → Q (-1 : Int32) σ14) ∧ (¬ r15 = 0 → wp_X5_isLane a2 σ14 (fun r18 σ17 => (r18 = 0 → Q (-1 : Int32) σ17) ∧ (¬ r18 = 0 → wp_X5_within a4 (0 : Int32) (20 : Int32) σ17 (fun r21 σ20 => (¬ r21 = 0 → vp_in a1 4 ∧ (wp_X0_copyFrom 19 12 σ20 (fun σ24 => P55 (0 : Int32) (0 : Int32) (0 : Int32) σ24))) ∧ (r21 = 0 → Q (-1 : Int32) σ20))))))
theorem in_X5_read_X2 : ∀ w ∈ wsX20, w ∈ wsX5_read := fun _ h => List.mem_cons_of_mem _ (List.mem_append_left _ (List.mem_append_right _ h))
theorem in_X5_read_X5 : ∀ w ∈ wsX50, w ∈ wsX5_read := fun _ h => List.mem_cons_of_mem _ (List.mem_append_left _ (List.mem_append_left _ (List.mem_append_right _ h)))
def rmX5_read : Room := { frames := 5, cells := 0, slots := 0, locals := 108 }
theorem hdX5_read : yX5_read.cls = RX5 ∧ yX5_read.cls ≠ "java/lang/invoke/MethodHandle" ∧ yX5_read.cls ≠ "java/lang/invoke/VarHandle" ∧ (parseMethodDescriptor yX5_read.desc).map (fun d => d.parameters.length) = some 4 := by decide +kernel
set_option maxHeartbeats 4000000 in
set_option maxRecDepth 100000 in
theorem c_X5_read {l : Launch} {E : EE} {a1 : Int32} {a2 : Int32} {a3 : Int32} {a4 : Int32}  {σ : Mem} {Q : Int32 → Mem → Prop} (h : wp_X5_read a1 a2 a3 a4 σ Q) : CtI l yX5_read wsX5_read rmX5_read E [.ref (eA E 0), .int a1, .int a2, .int a3, .int a4] σ Q := by
  refine metI (cc := cX5_read) (nL := 10) (ret := (some .int)) (lv := [(0, .ref (eA E 0)), (1, .int a1), (2, .int a2), (3, .int a3), (4, .int a4)]) (by decide) rfl (Nat.le_of_ble_eq_true rfl) rfl ?_
  intro p e s m args below meth c C
  unfold wp_X5_read at h
  replace h := h (fun (x6 : Int32) (x7 : Int32) (x8 : Int32) (σ : Mem) => J E p l e rmX5_read s m args below meth c (QI E below args s Q) 10 55 [(0, .ref (eA E 0)), (2, .int a2), (3, .int a3), (4, .int a4), (5, .ref (eA E (53 + 2 * (a1).toNatClampNeg))), (6, .int x6), (7, .int x7), (8, .int x8)] [] σ) (fun (x6 : Int32) (x7 : Int32) (x8 : Int32) (σ : Mem) => J E p l e rmX5_read s m args below meth c (QI E below args s Q) 10 124 [(0, .ref (eA E 0)), (2, .int a2), (3, .int a3), (4, .int a4), (5, .ref (eA E (53 + 2 * (a1).toNatClampNeg))), (6, .int x6), (7, .int x7), (8, .int x8)] [] σ) (fun (x6 : Int32) (x7 : Int32) (σ : Mem) => J E p l e rmX5_read s m args below meth c (QI E below args s Q) 10 130 [(0, .ref (eA E 0)), (6, .int x6), (7, .int x7)] [] σ) (by
    intro x6 x7 x8 σ h
    obtain ⟨b10, h⟩ := h
    refine j_iload C 8 dX5_read_55 7 rfl ?_
    refine j_iload C 4 dX5_read_57 3 rfl ?_
    refine j_icmp_ge C 130 dX5_read_59 (by decide) (fun c1 => ?_) (fun c1 => ?_)
    · replace h := h.1 c1
      exact j_sub (lv' := [(0, .ref (eA E 0)), (6, .int x6), (7, .int x7)]) [0, 5, 6] rfl h
    · replace h := h.2 c1
      refine j_iload C 7 dX5_read_62 6 rfl ?_
      refine j_if_ne C 130 dX5_read_64 (by decide) (fun c2 => ?_) (fun c2 => ?_)
      · replace h := h.1 c2
        exact j_sub (lv' := [(0, .ref (eA E 0)), (6, .int x6), (7, .int x7)]) [0, 5, 6] rfl h
      · replace h := h.2 c2
        refine j_iload_n C 3 dX5_read_67 rfl 2 rfl ?_
        refine j_iconst (v := (2 : Int32)) C dX5_read_68 (by decide) ?_
        refine j_iload C 8 dX5_read_69 7 rfl ?_
        refine j_imul C dX5_read_71 ?_
        refine j_iadd C dX5_read_72 ?_
        refine j_topi (fun v3 ev3 => ?_)
        replace h := h v3 ev3
        refine j_istore (lv' := [(9, .int v3), (0, .ref (eA E 0)), (2, .int a2), (3, .int a3), (4, .int a4), (5, .ref (eA E (53 + 2 * (a1).toNatClampNeg))), (6, .int x6), (7, .int x7), (8, .int x8)]) C 9 dX5_read_73 (by decide) rfl ?_
        refine j_aload C 5 dX5_read_75 5 rfl ?_
        refine j_iload_n C 2 dX5_read_77 rfl 2 rfl ?_
        refine j_iload C 9 dX5_read_78 0 rfl ?_
        refine j_callVI (As := [.int a2, .int v3]) (rest := []) C (53 + 2 * (a1).toNatClampNeg) (c_X2_faultOfPair (she_at b10) h) (cwV 2 C.2.2.2.2.2.1 gX5_read_X2_faultOfPair rfl rfl rfl hdX2_faultOfPair ⟨Nat.le_of_ble_eq_true rfl, Nat.le_of_ble_eq_true rfl⟩) (shp_she (she_at b10)) rfl rfl rfl (Nat.le_of_ble_eq_true rfl) dX5_read_80 (fun r5 σ4 h => ?_)
        refine j_istore (lv' := [(7, .int r5), (9, .int v3), (0, .ref (eA E 0)), (2, .int a2), (3, .int a3), (4, .int a4), (5, .ref (eA E (53 + 2 * (a1).toNatClampNeg))), (6, .int x6), (8, .int x8)]) C 7 dX5_read_83 (by decide) rfl ?_
        refine j_iload C 7 dX5_read_85 0 rfl ?_
        refine j_if_ne C 124 dX5_read_87 (by decide) (fun c6 => ?_) (fun c6 => ?_)
        · replace h := h.1 c6
          exact j_sub (lv' := [(0, .ref (eA E 0)), (2, .int a2), (3, .int a3), (4, .int a4), (5, .ref (eA E (53 + 2 * (a1).toNatClampNeg))), (6, .int x6), (7, .int r5), (8, .int x8)]) [2, 3, 4, 5, 6, 7, 0, 8] rfl h
        · replace h := h.2 c6
          refine j_aload_n C 0 dX5_read_90 rfl 2 rfl ?_
          refine j_aload C 5 dX5_read_91 6 rfl ?_
          refine j_getR C ((53 + 2 * (a1).toNatClampNeg) + 1) (53 + 2 * (a1).toNatClampNeg) 0 (shp_she (she_at b10)) rfl rfl in_X5_read_X2 (by decide) (by decide +kernel) dX5_read_93 ?_
          refine j_iload C 9 dX5_read_96 1 rfl ?_
          refine j_iald C ((53 + 2 * (a1).toNatClampNeg) + 1) (shp_sheC (she_at b10)) dX5_read_98 h.1 ?_
          replace h := h.2
          refine j_aload C 5 dX5_read_99 6 rfl ?_
          refine j_getR C ((53 + 2 * (a1).toNatClampNeg) + 1) (53 + 2 * (a1).toNatClampNeg) 0 (shp_she (she_at b10)) rfl rfl in_X5_read_X2 (by decide) (by decide +kernel) dX5_read_101 ?_
          refine j_iload C 9 dX5_read_104 1 rfl ?_
          refine j_iconst (v := (1 : Int32)) C dX5_read_106 (by decide) ?_
          refine j_iadd C dX5_read_107 ?_
          refine j_iald C ((53 + 2 * (a1).toNatClampNeg) + 1) (shp_sheC (she_at b10)) dX5_read_108 h.1 ?_
          replace h := h.2
          refine j_callVI (As := [.int (σ4.1 ((53 + 2 * (a1).toNatClampNeg) + 1) (v3).toNatClampNeg), .int (σ4.1 ((53 + 2 * (a1).toNatClampNeg) + 1) ((v3 + (1 : Int32))).toNatClampNeg)]) (rest := []) C 0 (c_X5_trains h) (cwV 2 C.2.2.2.2.2.1 gX5_read_X5_trains rfl rfl rfl hdX5_trains ⟨Nat.le_of_ble_eq_true rfl, Nat.le_of_ble_eq_true rfl⟩) rfl rfl rfl rfl (Nat.le_of_ble_eq_true rfl) dX5_read_109 (fun r8 σ7 h => ?_)
          refine j_if_ne C 121 dX5_read_112 (by decide) (fun c9 => ?_) (fun c9 => ?_)
          · replace h := h.1 c9
            obtain ⟨v10, ev10⟩ : ∃ y : Int32, y = x6 + (1 : Int32) := ⟨_, rfl⟩
            replace h := h v10 ev10
            refine j_iinc (v := v10) (lv' := [(6, .int v10), (7, .int r5), (9, .int v3), (0, .ref (eA E 0)), (2, .int a2), (3, .int a3), (4, .int a4), (5, .ref (eA E (53 + 2 * (a1).toNatClampNeg))), (8, .int x8)]) C 6 dX5_read_121 7 rfl (by rw [ev10]; rfl) (by decide) rfl ?_
            exact j_sub (lv' := [(0, .ref (eA E 0)), (2, .int a2), (3, .int a3), (4, .int a4), (5, .ref (eA E (53 + 2 * (a1).toNatClampNeg))), (6, .int v10), (7, .int r5), (8, .int x8)]) [3, 4, 5, 6, 7, 0, 1, 8] rfl h
          · replace h := h.2 c9
            refine j_bipush (v := (-20 : Int32)) C dX5_read_115 (by decide) ?_
            refine j_iload C 8 dX5_read_117 8 rfl ?_
            refine j_isub C dX5_read_119 ?_
            exact j_iret C dX5_read_120 h) (by
    intro x6 x7 x8 σ h
    obtain ⟨b10, h⟩ := h
    obtain ⟨v11, ev11⟩ : ∃ y : Int32, y = x8 + (1 : Int32) := ⟨_, rfl⟩
    replace h := h v11 ev11
    refine j_iinc (v := v11) (lv' := [(8, .int v11), (0, .ref (eA E 0)), (2, .int a2), (3, .int a3), (4, .int a4), (5, .ref (eA E (53 + 2 * (a1).toNatClampNeg))), (6, .int x6), (7, .int x7)]) C 8 dX5_read_124 7 rfl (by rw [ev11]; rfl) (by decide) rfl ?_
    refine j_goto C 55 dX5_read_127 (by decide) ?_
    exact j_sub (lv' := [(0, .ref (eA E 0)), (2, .int a2), (3, .int a3), (4, .int a4), (5, .ref (eA E (53 + 2 * (a1).toNatClampNeg))), (6, .int x6), (7, .int x7), (8, .int v11)]) [1, 2, 3, 4, 5, 6, 7, 0] rfl h) (by
    intro x6 x7 σ h
    refine j_aload_n C 0 dX5_read_130 rfl 0 rfl ?_
    refine j_getR C 12 0 1 rfl rfl rfl in_X5_read_X5 (by decide) (by decide +kernel) dX5_read_131 ?_
    refine j_aload_n C 0 dX5_read_134 rfl 0 rfl ?_
    refine j_getR C 19 0 2 rfl rfl rfl in_X5_read_X5 (by decide) (by decide +kernel) dX5_read_135 ?_
    refine j_callVV (As := [.ref (eA E 19)]) (rest := []) C 12 (c_X0_copyFrom (rfl) (rfl) h) (cwV 1 C.2.2.2.2.2.1 gX5_read_X0_copyFrom rfl rfl rfl hdX0_copyFrom ⟨Nat.le_of_ble_eq_true rfl, Nat.le_of_ble_eq_true rfl⟩) (shp_dyn (rfl)) rfl rfl rfl (Nat.le_of_ble_eq_true rfl) dX5_read_138 (fun σ12 h => ?_)
    refine j_aload_n C 0 dX5_read_141 rfl 0 rfl ?_
    refine j_iload C 7 dX5_read_142 2 rfl ?_
    refine j_put C 0 9 rfl rfl rfl in_X5_read_X5 tyX5 tyX5_ok nmX5 (by decide) (by decide +kernel) rfl rfl rfl rfl dX5_read_144 ?_
    refine j_mem (fun σ13 eσ13 => ?_)
    replace h := h σ13 eσ13
    refine j_iload C 6 dX5_read_147 1 rfl ?_
    exact j_iret C dX5_read_149 h)
  refine j_iload_n C 1 dX5_read_0 rfl 1 rfl ?_
  refine j_callSI (As := [.int a1]) (rest := []) C (c_X5_isSheet h) (va_cwS 1 C.2.2.2.2.2.1 gX5_read_X5_isSheet rfl rfl rfl hdX5_isSheet.2 ⟨Nat.le_of_ble_eq_true rfl, Nat.le_of_ble_eq_true rfl⟩) rfl rfl (Nat.le_of_ble_eq_true rfl) dX5_read_1 (fun r15 σ14 h => ?_)
  refine j_if_eq C 25 dX5_read_4 (by decide) (fun c16 => ?_) (fun c16 => ?_)
  · replace h := h.1 c16
    refine j_iconst (v := (-1 : Int32)) C dX5_read_25 (by decide) ?_
    exact j_iret C dX5_read_26 h
  · replace h := h.2 c16
    refine j_iload_n C 2 dX5_read_7 rfl 2 rfl ?_
    refine j_callSI (As := [.int a2]) (rest := []) C (c_X5_isLane h) (va_cwS 1 C.2.2.2.2.2.1 gX5_read_X5_isLane rfl rfl rfl hdX5_isLane.2 ⟨Nat.le_of_ble_eq_true rfl, Nat.le_of_ble_eq_true rfl⟩) rfl rfl (Nat.le_of_ble_eq_true rfl) dX5_read_8 (fun r18 σ17 h => ?_)
    refine j_if_eq C 25 dX5_read_11 (by decide) (fun c19 => ?_) (fun c19 => ?_)
    · replace h := h.1 c19
      refine j_iconst (v := (-1 : Int32)) C dX5_read_25 (by decide) ?_
      exact j_iret C dX5_read_26 h
    · replace h := h.2 c19
      refine j_iload C 4 dX5_read_14 4 rfl ?_
      refine j_iconst (v := (0 : Int32)) C dX5_read_16 (by decide) ?_
      refine j_bipush (v := (20 : Int32)) C dX5_read_17 (by decide) ?_
      refine j_callSI (As := [.int a4, .int (0 : Int32), .int (20 : Int32)]) (rest := []) C (c_X5_within h) (va_cwS 3 C.2.2.2.2.2.1 gX5_read_X5_within rfl rfl rfl hdX5_within.2 ⟨Nat.le_of_ble_eq_true rfl, Nat.le_of_ble_eq_true rfl⟩) rfl rfl (Nat.le_of_ble_eq_true rfl) dX5_read_19 (fun r21 σ20 h => ?_)
      refine j_if_ne C 27 dX5_read_22 (by decide) (fun c22 => ?_) (fun c22 => ?_)
      · replace h := h.1 c22
        refine j_aload_n C 0 dX5_read_27 rfl 0 rfl ?_
        refine j_getR C 52 0 5 rfl rfl rfl in_X5_read_X5 (by decide) (by decide +kernel) dX5_read_28 ?_
        refine j_iload_n C 1 dX5_read_31 rfl 1 rfl ?_
        obtain ⟨b23, h⟩ := h
        refine j_aald C 52 4 rfl rfl rfl dX5_read_32 b23 ?_
        refine j_astore (lv' := [(5, .ref (eA E (53 + 2 * (a1).toNatClampNeg))), (0, .ref (eA E 0)), (1, .int a1), (2, .int a2), (3, .int a3), (4, .int a4)]) C 5 dX5_read_33 (by decide) rfl ?_
        refine j_aload_n C 0 dX5_read_35 rfl 1 rfl ?_
        refine j_getR C 19 0 2 rfl rfl rfl in_X5_read_X5 (by decide) (by decide +kernel) dX5_read_36 ?_
        refine j_aload_n C 0 dX5_read_39 rfl 1 rfl ?_
        refine j_getR C 12 0 1 rfl rfl rfl in_X5_read_X5 (by decide) (by decide +kernel) dX5_read_40 ?_
        refine j_callVV (As := [.ref (eA E 12)]) (rest := []) C 19 (c_X0_copyFrom (rfl) (rfl) h) (cwV 1 C.2.2.2.2.2.1 gX5_read_X0_copyFrom rfl rfl rfl hdX0_copyFrom ⟨Nat.le_of_ble_eq_true rfl, Nat.le_of_ble_eq_true rfl⟩) (shp_dyn (rfl)) rfl rfl rfl (Nat.le_of_ble_eq_true rfl) dX5_read_43 (fun σ24 h => ?_)
        refine j_iconst (v := (0 : Int32)) C dX5_read_46 (by decide) ?_
        refine j_istore (lv' := [(6, .int (0 : Int32)), (5, .ref (eA E (53 + 2 * (a1).toNatClampNeg))), (0, .ref (eA E 0)), (1, .int a1), (2, .int a2), (3, .int a3), (4, .int a4)]) C 6 dX5_read_47 (by decide) rfl ?_
        refine j_iconst (v := (0 : Int32)) C dX5_read_49 (by decide) ?_
        refine j_istore (lv' := [(7, .int (0 : Int32)), (6, .int (0 : Int32)), (5, .ref (eA E (53 + 2 * (a1).toNatClampNeg))), (0, .ref (eA E 0)), (1, .int a1), (2, .int a2), (3, .int a3), (4, .int a4)]) C 7 dX5_read_50 (by decide) rfl ?_
        refine j_iconst (v := (0 : Int32)) C dX5_read_52 (by decide) ?_
        refine j_istore (lv' := [(8, .int (0 : Int32)), (7, .int (0 : Int32)), (6, .int (0 : Int32)), (5, .ref (eA E (53 + 2 * (a1).toNatClampNeg))), (0, .ref (eA E 0)), (1, .int a1), (2, .int a2), (3, .int a3), (4, .int a4)]) C 8 dX5_read_53 (by decide) rfl ?_
        exact j_sub (lv' := [(0, .ref (eA E 0)), (2, .int a2), (3, .int a3), (4, .int a4), (5, .ref (eA E (53 + 2 * (a1).toNatClampNeg))), (6, .int (0 : Int32)), (7, .int (0 : Int32)), (8, .int (0 : Int32))]) [4, 6, 7, 8, 3, 2, 1, 0] rfl h
      · replace h := h.2 c22
        refine j_iconst (v := (-1 : Int32)) C dX5_read_25 (by decide) ?_
        exact j_iret C dX5_read_26 h
def wp_X5_torn (σ : Mem) (Q : Int32 → Mem → Prop) : Prop :=
  Q (σ.1 0 9) σ
theorem in_X5_torn_X5 : ∀ w ∈ wsX50, w ∈ wsX5_torn := fun _ h => List.mem_cons_of_mem _ (List.mem_append_right _ h)
def rmX5_torn : Room := { frames := 0, cells := 0, slots := 0, locals := 0 }
theorem hdX5_torn : yX5_torn.cls = RX5 ∧ yX5_torn.cls ≠ "java/lang/invoke/MethodHandle" ∧ yX5_torn.cls ≠ "java/lang/invoke/VarHandle" ∧ (parseMethodDescriptor yX5_torn.desc).map (fun d => d.parameters.length) = some 0 := by decide +kernel
set_option maxHeartbeats 4000000 in
set_option maxRecDepth 100000 in
theorem c_X5_torn {l : Launch} {E : EE}   {σ : Mem} {Q : Int32 → Mem → Prop} (h : wp_X5_torn  σ Q) : CtI l yX5_torn wsX5_torn rmX5_torn E [.ref (eA E 0)] σ Q := by
  refine metI (cc := cX5_torn) (nL := 1) (ret := (some .int)) (lv := [(0, .ref (eA E 0))]) (by decide) rfl (Nat.le_of_ble_eq_true rfl) rfl ?_
  intro p e s m args below meth c C
  unfold wp_X5_torn at h
  refine j_aload_n C 0 dX5_torn_0 rfl 0 rfl ?_
  refine j_getI C 0 9 rfl rfl rfl in_X5_torn_X5 (by decide) (by decide +kernel) dX5_torn_1 ?_
  exact j_iret C dX5_torn_4 h
def wp_X5_count (a1 : Int32) (σ : Mem) (Q : Int32 → Mem → Prop) : Prop :=
  ∀ (P65 : Int32 → Mem → Prop),
  (∀ (s0 : Int32) (σ : Mem), (((σ.1 (30 + 11 * ((1 : Int32)).toNatClampNeg) 2) = 0 → Q (s0 + (0 : Int32)) σ) ∧ (¬ (σ.1 (30 + 11 * ((1 : Int32)).toNatClampNeg) 2) = 0 → Q (s0 + (1 : Int32)) σ)) → P65 s0 σ) →
  (a1 = (0 : Int32) → Q (σ.1 26 2) σ) ∧ (a1 = (1 : Int32) → ((σ.1 (30 + 11 * ((0 : Int32)).toNatClampNeg) 2) = 0 → P65 (0 : Int32) σ) ∧ (¬ (σ.1 (30 + 11 * ((0 : Int32)).toNatClampNeg) 2) = 0 → P65 (1 : Int32) σ)) ∧ (a1 = (2 : Int32) → Q (σ.1 1 1) σ) ∧ (a1 = (3 : Int32) → (0 ≤ (σ.1 (53 + 2 * ((0 : Int32)).toNatClampNeg) 2) → Q (σ.1 (53 + 2 * ((0 : Int32)).toNatClampNeg) 2) σ) ∧ (¬ 0 ≤ (σ.1 (53 + 2 * ((0 : Int32)).toNatClampNeg) 2) → Q (-4 : Int32) σ)) ∧ (a1 = (4 : Int32) → wp_X0_sumOf 12 (1 : Int32) σ (fun r14 σ13 => Q r14 σ13)) ∧ (a1 = (5 : Int32) → wp_X0_sumOf 12 (3 : Int32) σ (fun r17 σ16 => Q r17 σ16)) ∧ (¬ a1 = (0 : Int32) → ¬ a1 = (1 : Int32) → ¬ a1 = (2 : Int32) → ¬ a1 = (3 : Int32) → ¬ a1 = (4 : Int32) → ¬ a1 = (5 : Int32) → Q (-1 : Int32) σ)
theorem in_X5_count_X1 : ∀ w ∈ wsX10, w ∈ wsX5_count := fun _ h => List.mem_cons_of_mem _ (List.mem_append_left _ (List.mem_append_left _ (List.mem_append_left _ (List.mem_append_right _ h))))
theorem in_X5_count_X2 : ∀ w ∈ wsX20, w ∈ wsX5_count := fun _ h => List.mem_cons_of_mem _ (List.mem_append_left _ (List.mem_append_right _ h))
theorem in_X5_count_X3 : ∀ w ∈ wsX30, w ∈ wsX5_count := fun _ h => List.mem_cons_of_mem _ (List.mem_append_left _ (List.mem_append_left _ (List.mem_append_left _ (List.mem_append_left _ (List.mem_append_right _ h)))))
theorem in_X5_count_X4 : ∀ w ∈ wsX40, w ∈ wsX5_count := fun _ h => List.mem_cons_of_mem _ (List.mem_append_left _ (List.mem_append_left _ (List.mem_append_right _ h)))
theorem in_X5_count_X5 : ∀ w ∈ wsX50, w ∈ wsX5_count := fun _ h => List.mem_cons_of_mem _ (List.mem_append_left _ (List.mem_append_left _ (List.mem_append_left _ (List.mem_append_left _ (List.mem_append_left _ (List.mem_append_right _ h))))))
def rmX5_count : Room := { frames := 1, cells := 0, slots := 0, locals := 23 }
theorem hdX5_count : yX5_count.cls = RX5 ∧ yX5_count.cls ≠ "java/lang/invoke/MethodHandle" ∧ yX5_count.cls ≠ "java/lang/invoke/VarHandle" ∧ (parseMethodDescriptor yX5_count.desc).map (fun d => d.parameters.length) = some 1 := by decide +kernel
set_option maxHeartbeats 4000000 in
set_option maxRecDepth 100000 in
theorem c_X5_count {l : Launch} {E : EE} {a1 : Int32}  {σ : Mem} {Q : Int32 → Mem → Prop} (h : wp_X5_count a1 σ Q) : CtI l yX5_count wsX5_count rmX5_count E [.ref (eA E 0), .int a1] σ Q := by
  refine metI (cc := cX5_count) (nL := 2) (ret := (some .int)) (lv := [(0, .ref (eA E 0)), (1, .int a1)]) (by decide) rfl (Nat.le_of_ble_eq_true rfl) rfl ?_
  intro p e s m args below meth c C
  unfold wp_X5_count at h
  replace h := h (fun (s0 : Int32) (σ : Mem) => J E p l e rmX5_count s m args below meth c (QI E below args s Q) 2 65 [(0, .ref (eA E 0))] [.int s0] σ) (by
    intro s0 σ h
    refine j_aload_n C 0 dX5_count_65 rfl 0 rfl ?_
    refine j_getR C 29 0 4 rfl rfl rfl in_X5_count_X5 (by decide) (by decide +kernel) dX5_count_66 ?_
    refine j_iconst (v := (1 : Int32)) C dX5_count_69 (by decide) ?_
    refine j_aald C 29 3 rfl rfl rfl dX5_count_70 (in_lit rfl) ?_
    refine j_getI C (30 + 11 * ((1 : Int32)).toNatClampNeg) 2 (shp_img (in_lit rfl)) rfl rfl in_X5_count_X1 (by decide) (by decide +kernel) dX5_count_71 ?_
    refine j_if_eq C 81 dX5_count_74 (by decide) (fun c2 => ?_) (fun c2 => ?_)
    · replace h := h.1 c2
      refine j_iconst (v := (0 : Int32)) C dX5_count_81 (by decide) ?_
      refine j_iadd C dX5_count_82 ?_
      exact j_iret C dX5_count_83 h
    · replace h := h.2 c2
      refine j_iconst (v := (1 : Int32)) C dX5_count_77 (by decide) ?_
      refine j_goto C 82 dX5_count_78 (by decide) ?_
      refine j_iadd C dX5_count_82 ?_
      exact j_iret C dX5_count_83 h)
  refine j_iload_n C 1 dX5_count_0 rfl 1 rfl ?_
  by_cases c3 : a1 = (0 : Int32)
  · replace h := h.1 c3
    refine j_tabIn (off := 39) C 40 dX5_count_1 (0 : Int32) c3 (by decide) (by decide) (by decide) (by decide) ?_
    refine j_aload_n C 0 dX5_count_40 rfl 0 rfl ?_
    refine j_getR C 26 0 3 rfl rfl rfl in_X5_count_X5 (by decide) (by decide +kernel) dX5_count_41 ?_
    refine j_getI C 26 2 (shp_sig (rfl)) rfl rfl in_X5_count_X3 (by decide) (by decide +kernel) dX5_count_44 ?_
    exact j_iret C dX5_count_47 h
  by_cases c4 : a1 = (1 : Int32)
  · replace h := h.2.1 c4
    refine j_tabIn (off := 47) C 48 dX5_count_1 (1 : Int32) c4 (by decide) (by decide) (by decide) (by decide) ?_
    refine j_aload_n C 0 dX5_count_48 rfl 0 rfl ?_
    refine j_getR C 29 0 4 rfl rfl rfl in_X5_count_X5 (by decide) (by decide +kernel) dX5_count_49 ?_
    refine j_iconst (v := (0 : Int32)) C dX5_count_52 (by decide) ?_
    refine j_aald C 29 3 rfl rfl rfl dX5_count_53 (in_lit rfl) ?_
    refine j_getI C (30 + 11 * ((0 : Int32)).toNatClampNeg) 2 (shp_img (in_lit rfl)) rfl rfl in_X5_count_X1 (by decide) (by decide +kernel) dX5_count_54 ?_
    refine j_if_eq C 64 dX5_count_57 (by decide) (fun c6 => ?_) (fun c6 => ?_)
    · replace h := h.1 c6
      refine j_iconst (v := (0 : Int32)) C dX5_count_64 (by decide) ?_
      exact j_sub (lv' := [(0, .ref (eA E 0))]) [0] rfl h
    · replace h := h.2 c6
      refine j_iconst (v := (1 : Int32)) C dX5_count_60 (by decide) ?_
      refine j_goto C 65 dX5_count_61 (by decide) ?_
      exact j_sub (lv' := [(0, .ref (eA E 0))]) [0] rfl h
  by_cases c7 : a1 = (2 : Int32)
  · replace h := h.2.2.1 c7
    refine j_tabIn (off := 83) C 84 dX5_count_1 (2 : Int32) c7 (by decide) (by decide) (by decide) (by decide) ?_
    refine j_aload_n C 0 dX5_count_84 rfl 0 rfl ?_
    refine j_getR C 1 0 0 rfl rfl rfl in_X5_count_X5 (by decide) (by decide +kernel) dX5_count_85 ?_
    refine j_getI C 1 1 rfl rfl rfl in_X5_count_X4 (by decide) (by decide +kernel) dX5_count_88 ?_
    exact j_iret C dX5_count_91 h
  by_cases c8 : a1 = (3 : Int32)
  · replace h := h.2.2.2.1 c8
    refine j_tabIn (off := 91) C 92 dX5_count_1 (3 : Int32) c8 (by decide) (by decide) (by decide) (by decide) ?_
    refine j_aload_n C 0 dX5_count_92 rfl 0 rfl ?_
    refine j_getR C 52 0 5 rfl rfl rfl in_X5_count_X5 (by decide) (by decide +kernel) dX5_count_93 ?_
    refine j_iconst (v := (0 : Int32)) C dX5_count_96 (by decide) ?_
    refine j_aald C 52 4 rfl rfl rfl dX5_count_97 (in_lit rfl) ?_
    refine j_getI C (53 + 2 * ((0 : Int32)).toNatClampNeg) 2 (shp_she (she_at (in_lit rfl))) rfl rfl in_X5_count_X2 (by decide) (by decide +kernel) dX5_count_98 ?_
    refine j_if_ge C 109 dX5_count_101 (by decide) (fun c10 => ?_) (fun c10 => ?_)
    · replace h := h.1 c10
      refine j_aload_n C 0 dX5_count_109 rfl 0 rfl ?_
      refine j_getR C 52 0 5 rfl rfl rfl in_X5_count_X5 (by decide) (by decide +kernel) dX5_count_110 ?_
      refine j_iconst (v := (0 : Int32)) C dX5_count_113 (by decide) ?_
      refine j_aald C 52 4 rfl rfl rfl dX5_count_114 (in_lit rfl) ?_
      refine j_getI C (53 + 2 * ((0 : Int32)).toNatClampNeg) 2 (shp_she (she_at (in_lit rfl))) rfl rfl in_X5_count_X2 (by decide) (by decide +kernel) dX5_count_115 ?_
      exact j_iret C dX5_count_118 h
    · replace h := h.2 c10
      refine j_bipush (v := (-4 : Int32)) C dX5_count_104 (by decide) ?_
      refine j_goto C 118 dX5_count_106 (by decide) ?_
      exact j_iret C dX5_count_118 h
  by_cases c12 : a1 = (4 : Int32)
  · replace h := h.2.2.2.2.1 c12
    refine j_tabIn (off := 118) C 119 dX5_count_1 (4 : Int32) c12 (by decide) (by decide) (by decide) (by decide) ?_
    refine j_aload_n C 0 dX5_count_119 rfl 0 rfl ?_
    refine j_getR C 12 0 1 rfl rfl rfl in_X5_count_X5 (by decide) (by decide +kernel) dX5_count_120 ?_
    refine j_iconst (v := (1 : Int32)) C dX5_count_123 (by decide) ?_
    refine j_callVI (As := [.int (1 : Int32)]) (rest := []) C 12 (c_X0_sumOf (rfl) h) (cwV 1 C.2.2.2.2.2.1 gX5_count_X0_sumOf rfl rfl rfl hdX0_sumOf ⟨Nat.le_of_ble_eq_true rfl, Nat.le_of_ble_eq_true rfl⟩) (shp_dyn (rfl)) rfl rfl rfl (Nat.le_of_ble_eq_true rfl) dX5_count_124 (fun r14 σ13 h => ?_)
    exact j_iret C dX5_count_127 h
  by_cases c15 : a1 = (5 : Int32)
  · replace h := h.2.2.2.2.2.1 c15
    refine j_tabIn (off := 127) C 128 dX5_count_1 (5 : Int32) c15 (by decide) (by decide) (by decide) (by decide) ?_
    refine j_aload_n C 0 dX5_count_128 rfl 0 rfl ?_
    refine j_getR C 12 0 1 rfl rfl rfl in_X5_count_X5 (by decide) (by decide +kernel) dX5_count_129 ?_
    refine j_iconst (v := (3 : Int32)) C dX5_count_132 (by decide) ?_
    refine j_callVI (As := [.int (3 : Int32)]) (rest := []) C 12 (c_X0_sumOf (rfl) h) (cwV 1 C.2.2.2.2.2.1 gX5_count_X0_sumOf rfl rfl rfl hdX0_sumOf ⟨Nat.le_of_ble_eq_true rfl, Nat.le_of_ble_eq_true rfl⟩) (shp_dyn (rfl)) rfl rfl rfl (Nat.le_of_ble_eq_true rfl) dX5_count_133 (fun r17 σ16 h => ?_)
    exact j_iret C dX5_count_136 h
  replace h := h.2.2.2.2.2.2 c3 c4 c7 c8 c12 c15
  refine j_tabOut C 137 dX5_count_1 (tab_out (lo := 0) (hi := 5) (fun v h1 h2 => by rcases (show v = 0 ∨ v = 1 ∨ v = 2 ∨ v = 3 ∨ v = 4 ∨ v = 5 by omega) with rfl | rfl | rfl | rfl | rfl | rfl <;> assumption)) (by decide) ?_
  refine j_iconst (v := (-1 : Int32)) C dX5_count_137 (by decide) ?_
  exact j_iret C dX5_count_138 h
