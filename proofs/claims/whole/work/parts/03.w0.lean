def wp_X5_within (a0 : Int32) (a1 : Int32) (a2 : Int32) (σ : Mem) (Q : Int32 → Mem → Prop) : Prop :=
  (a0 < a1 → Q (0 : Int32) σ) ∧ (¬ a0 < a1 → (a2 < a0 → Q (0 : Int32) σ) ∧ (¬ a2 < a0 → Q (1 : Int32) σ))
def rmX5_within : Room := { frames := 0, cells := 0, slots := 0, locals := 0 }
theorem hdX5_within : yX5_within.cls = RX5 ∧ yX5_within.cls ≠ "java/lang/invoke/MethodHandle" ∧ yX5_within.cls ≠ "java/lang/invoke/VarHandle" ∧ (parseMethodDescriptor yX5_within.desc).map (fun d => d.parameters.length) = some 3 := by decide +kernel
set_option maxHeartbeats 4000000 in
set_option maxRecDepth 100000 in
theorem c_X5_within {l : Launch} {E : EE} {a0 : Int32} {a1 : Int32} {a2 : Int32}  {σ : Mem} {Q : Int32 → Mem → Prop} (h : wp_X5_within a0 a1 a2 σ Q) : CtI l yX5_within wsX5_within rmX5_within E [.int a0, .int a1, .int a2] σ Q := by
  refine metI (cc := cX5_within) (nL := 3) (ret := (some .boolean)) (lv := [(0, .int a0), (1, .int a1), (2, .int a2)]) (by decide) rfl (Nat.le_of_ble_eq_true rfl) rfl ?_
  intro p e s m args below meth c C
  unfold wp_X5_within at h
  refine j_iload_n C 0 dX5_within_0 rfl 0 rfl ?_
  refine j_iload_n C 1 dX5_within_1 rfl 1 rfl ?_
  refine j_icmp_lt C 14 dX5_within_2 (by decide) (fun c1 => ?_) (fun c1 => ?_)
  · replace h := h.1 c1
    refine j_iconst (v := (0 : Int32)) C dX5_within_14 (by decide) ?_
    exact j_zret C dX5_within_15 (Or.inl rfl) h
  · replace h := h.2 c1
    refine j_iload_n C 0 dX5_within_5 rfl 0 rfl ?_
    refine j_iload_n C 2 dX5_within_6 rfl 2 rfl ?_
    refine j_icmp_gt C 14 dX5_within_7 (by decide) (fun c2 => ?_) (fun c2 => ?_)
    · replace h := h.1 c2
      refine j_iconst (v := (0 : Int32)) C dX5_within_14 (by decide) ?_
      exact j_zret C dX5_within_15 (Or.inl rfl) h
    · replace h := h.2 c2
      refine j_iconst (v := (1 : Int32)) C dX5_within_10 (by decide) ?_
      refine j_goto C 15 dX5_within_11 (by decide) ?_
      exact j_zret C dX5_within_15 (Or.inr rfl) h
def wp_X0_empty (d : Nat) (σ : Mem) (Q : Mem → Prop) : Prop :=
  ∀ σ1 : Mem, σ1 = st1 σ d 2 (0 : Int32) → ∀ σ2 : Mem, σ2 = st1 σ1 d 3 (0 : Int32) → ∀ σ3 : Mem, σ3 = st1 σ2 d 4 (0 : Int32) → ∀ σ4 : Mem, σ4 = st1 σ3 d 5 (0 : Int32) → ∀ σ5 : Mem, σ5 = st1 σ4 d 6 (0 : Int32) → ∀ σ6 : Mem, σ6 = st1 σ5 d 7 (0 : Int32) → Q σ6
theorem in_X0_empty_X0 : ∀ w ∈ wsX00, w ∈ wsX0_empty := fun _ h => List.mem_cons_of_mem _ (List.mem_append_right _ h)
def rmX0_empty : Room := { frames := 0, cells := 0, slots := 0, locals := 0 }
theorem hdX0_empty : yX0_empty.cls = RX0 ∧ yX0_empty.cls ≠ "java/lang/invoke/MethodHandle" ∧ yX0_empty.cls ≠ "java/lang/invoke/VarHandle" ∧ (parseMethodDescriptor yX0_empty.desc).map (fun d => d.parameters.length) = some 0 := by decide +kernel
set_option maxHeartbeats 4000000 in
set_option maxRecDepth 100000 in
theorem c_X0_empty {l : Launch} {E : EE} {d : Nat} (hd : isDyn d = true) {σ : Mem} {Q : Mem → Prop} (h : wp_X0_empty d σ Q) : CtV l yX0_empty wsX0_empty rmX0_empty E [.ref (eA E d)] σ Q := by
  refine metV (cc := cX0_empty) (nL := 1) (ret := none) (lv := [(0, .ref (eA E d))]) (by decide) rfl (Nat.le_of_ble_eq_true rfl) rfl ?_
  intro p e s m args below meth c C
  unfold wp_X0_empty at h
  refine j_aload_n C 0 dX0_empty_0 rfl 0 rfl ?_
  refine j_iconst (v := (0 : Int32)) C dX0_empty_1 (by decide) ?_
  refine j_put C d 2 (shp_dyn hd) rfl rfl in_X0_empty_X0 tyX0 tyX0_ok nmX0 (by decide) (by decide +kernel) rfl rfl rfl rfl dX0_empty_2 ?_
  refine j_mem (fun σ1 eσ1 => ?_)
  replace h := h σ1 eσ1
  refine j_aload_n C 0 dX0_empty_5 rfl 0 rfl ?_
  refine j_iconst (v := (0 : Int32)) C dX0_empty_6 (by decide) ?_
  refine j_put C d 3 (shp_dyn hd) rfl rfl in_X0_empty_X0 tyX0 tyX0_ok nmX0 (by decide) (by decide +kernel) rfl rfl rfl rfl dX0_empty_7 ?_
  refine j_mem (fun σ2 eσ2 => ?_)
  replace h := h σ2 eσ2
  refine j_aload_n C 0 dX0_empty_10 rfl 0 rfl ?_
  refine j_iconst (v := (0 : Int32)) C dX0_empty_11 (by decide) ?_
  refine j_put C d 4 (shp_dyn hd) rfl rfl in_X0_empty_X0 tyX0 tyX0_ok nmX0 (by decide) (by decide +kernel) rfl rfl rfl rfl dX0_empty_12 ?_
  refine j_mem (fun σ3 eσ3 => ?_)
  replace h := h σ3 eσ3
  refine j_aload_n C 0 dX0_empty_15 rfl 0 rfl ?_
  refine j_iconst (v := (0 : Int32)) C dX0_empty_16 (by decide) ?_
  refine j_put C d 5 (shp_dyn hd) rfl rfl in_X0_empty_X0 tyX0 tyX0_ok nmX0 (by decide) (by decide +kernel) rfl rfl rfl rfl dX0_empty_17 ?_
  refine j_mem (fun σ4 eσ4 => ?_)
  replace h := h σ4 eσ4
  refine j_aload_n C 0 dX0_empty_20 rfl 0 rfl ?_
  refine j_iconst (v := (0 : Int32)) C dX0_empty_21 (by decide) ?_
  refine j_put C d 6 (shp_dyn hd) rfl rfl in_X0_empty_X0 tyX0 tyX0_ok nmX0 (by decide) (by decide +kernel) rfl rfl rfl rfl dX0_empty_22 ?_
  refine j_mem (fun σ5 eσ5 => ?_)
  replace h := h σ5 eσ5
  refine j_aload_n C 0 dX0_empty_25 rfl 0 rfl ?_
  refine j_iconst (v := (0 : Int32)) C dX0_empty_26 (by decide) ?_
  refine j_put C d 7 (shp_dyn hd) rfl rfl in_X0_empty_X0 tyX0 tyX0_ok nmX0 (by decide) (by decide +kernel) rfl rfl rfl rfl dX0_empty_27 ?_
  refine j_mem (fun σ6 eσ6 => ?_)
  replace h := h σ6 eσ6
  exact j_vret C dX0_empty_30 h
def wp_X0_add (d : Nat) (a1 : Int32) (a2 : Int32) (a3 : Int32) (a4 : Int32) (σ : Mem) (Q : Int32 → Mem → Prop) : Prop :=
  ((σ.1 d 2) < (6 : Int32) → vp_in (σ.1 d 2) 6 ∧ (∀ σ3 : Mem, σ3 = st1 σ (d + 2 + 1 * ((0 : Int32)).toNatClampNeg) ((σ.1 d 2)).toNatClampNeg a1 → vp_in (σ3.1 d 2) 6 ∧ (∀ σ5 : Mem, σ5 = st1 σ3 (d + 2 + 1 * ((1 : Int32)).toNatClampNeg) ((σ3.1 d 2)).toNatClampNeg a2 → vp_in (σ5.1 d 2) 6 ∧ (∀ σ7 : Mem, σ7 = st1 σ5 (d + 2 + 1 * ((2 : Int32)).toNatClampNeg) ((σ5.1 d 2)).toNatClampNeg a3 → vp_in (σ7.1 d 2) 6 ∧ (∀ σ9 : Mem, σ9 = st1 σ7 (d + 2 + 1 * ((3 : Int32)).toNatClampNeg) ((σ7.1 d 2)).toNatClampNeg a4 → vp_in (σ9.1 d 2) 6 ∧ (∀ σ10 : Mem, σ10 = st1 σ9 (d + 6) ((σ9.1 d 2)).toNatClampNeg (σ9.1 d 2) → ∀ σ11 : Mem, σ11 = st1 σ10 d 2 ((σ10.1 d 2) + (1 : Int32)) → Q (1 : Int32) σ11)))))) ∧ (¬ (σ.1 d 2) < (6 : Int32) → Q (0 : Int32) σ)
theorem in_X0_add_X0 : ∀ w ∈ wsX00, w ∈ wsX0_add := fun _ h => List.mem_cons_of_mem _ (List.mem_append_right _ h)
def rmX0_add : Room := { frames := 0, cells := 0, slots := 0, locals := 0 }
theorem hdX0_add : yX0_add.cls = RX0 ∧ yX0_add.cls ≠ "java/lang/invoke/MethodHandle" ∧ yX0_add.cls ≠ "java/lang/invoke/VarHandle" ∧ (parseMethodDescriptor yX0_add.desc).map (fun d => d.parameters.length) = some 4 := by decide +kernel
set_option maxHeartbeats 4000000 in
set_option maxRecDepth 100000 in
theorem c_X0_add {l : Launch} {E : EE} {d : Nat} {a1 : Int32} {a2 : Int32} {a3 : Int32} {a4 : Int32} (hd : isDyn d = true) {σ : Mem} {Q : Int32 → Mem → Prop} (h : wp_X0_add d a1 a2 a3 a4 σ Q) : CtI l yX0_add wsX0_add rmX0_add E [.ref (eA E d), .int a1, .int a2, .int a3, .int a4] σ Q := by
  refine metI (cc := cX0_add) (nL := 5) (ret := (some .boolean)) (lv := [(0, .ref (eA E d)), (1, .int a1), (2, .int a2), (3, .int a3), (4, .int a4)]) (by decide) rfl (Nat.le_of_ble_eq_true rfl) rfl ?_
  intro p e s m args below meth c C
  unfold wp_X0_add at h
  refine j_aload_n C 0 dX0_add_0 rfl 0 rfl ?_
  refine j_getI C d 2 (shp_dyn hd) rfl rfl in_X0_add_X0 (by decide) (by decide +kernel) dX0_add_1 ?_
  refine j_bipush (v := (6 : Int32)) C dX0_add_4 (by decide) ?_
  refine j_icmp_lt C 11 dX0_add_6 (by decide) (fun c1 => ?_) (fun c1 => ?_)
  · replace h := h.1 c1
    refine j_aload_n C 0 dX0_add_11 rfl 0 rfl ?_
    refine j_getR C (d + 1) d 0 (shp_dyn hd) rfl rfl in_X0_add_X0 (by decide) (by decide +kernel) dX0_add_12 ?_
    refine j_iconst (v := (0 : Int32)) C dX0_add_15 (by decide) ?_
    refine j_aald C (d + 1) 5 (shp_dynT hd) rfl rfl dX0_add_16 (in_lit rfl) ?_
    refine j_aload_n C 0 dX0_add_17 rfl 0 rfl ?_
    refine j_getI C d 2 (shp_dyn hd) rfl rfl in_X0_add_X0 (by decide) (by decide +kernel) dX0_add_18 ?_
    refine j_iload_n C 1 dX0_add_21 rfl 1 rfl ?_
    refine j_iast C (d + 2 + 1 * ((0 : Int32)).toNatClampNeg) (shp_dynR hd (in_lit rfl)) dX0_add_22 h.1 ?_
    replace h := h.2
    refine j_mem (fun σ3 eσ3 => ?_)
    replace h := h σ3 eσ3
    refine j_aload_n C 0 dX0_add_23 rfl 0 rfl ?_
    refine j_getR C (d + 1) d 0 (shp_dyn hd) rfl rfl in_X0_add_X0 (by decide) (by decide +kernel) dX0_add_24 ?_
    refine j_iconst (v := (1 : Int32)) C dX0_add_27 (by decide) ?_
    refine j_aald C (d + 1) 5 (shp_dynT hd) rfl rfl dX0_add_28 (in_lit rfl) ?_
    refine j_aload_n C 0 dX0_add_29 rfl 0 rfl ?_
    refine j_getI C d 2 (shp_dyn hd) rfl rfl in_X0_add_X0 (by decide) (by decide +kernel) dX0_add_30 ?_
    refine j_iload_n C 2 dX0_add_33 rfl 2 rfl ?_
    refine j_iast C (d + 2 + 1 * ((1 : Int32)).toNatClampNeg) (shp_dynR hd (in_lit rfl)) dX0_add_34 h.1 ?_
    replace h := h.2
    refine j_mem (fun σ5 eσ5 => ?_)
    replace h := h σ5 eσ5
    refine j_aload_n C 0 dX0_add_35 rfl 0 rfl ?_
    refine j_getR C (d + 1) d 0 (shp_dyn hd) rfl rfl in_X0_add_X0 (by decide) (by decide +kernel) dX0_add_36 ?_
    refine j_iconst (v := (2 : Int32)) C dX0_add_39 (by decide) ?_
    refine j_aald C (d + 1) 5 (shp_dynT hd) rfl rfl dX0_add_40 (in_lit rfl) ?_
    refine j_aload_n C 0 dX0_add_41 rfl 0 rfl ?_
    refine j_getI C d 2 (shp_dyn hd) rfl rfl in_X0_add_X0 (by decide) (by decide +kernel) dX0_add_42 ?_
    refine j_iload_n C 3 dX0_add_45 rfl 3 rfl ?_
    refine j_iast C (d + 2 + 1 * ((2 : Int32)).toNatClampNeg) (shp_dynR hd (in_lit rfl)) dX0_add_46 h.1 ?_
    replace h := h.2
    refine j_mem (fun σ7 eσ7 => ?_)
    replace h := h σ7 eσ7
    refine j_aload_n C 0 dX0_add_47 rfl 0 rfl ?_
    refine j_getR C (d + 1) d 0 (shp_dyn hd) rfl rfl in_X0_add_X0 (by decide) (by decide +kernel) dX0_add_48 ?_
    refine j_iconst (v := (3 : Int32)) C dX0_add_51 (by decide) ?_
    refine j_aald C (d + 1) 5 (shp_dynT hd) rfl rfl dX0_add_52 (in_lit rfl) ?_
    refine j_aload_n C 0 dX0_add_53 rfl 0 rfl ?_
    refine j_getI C d 2 (shp_dyn hd) rfl rfl in_X0_add_X0 (by decide) (by decide +kernel) dX0_add_54 ?_
    refine j_iload C 4 dX0_add_57 4 rfl ?_
    refine j_iast C (d + 2 + 1 * ((3 : Int32)).toNatClampNeg) (shp_dynR hd (in_lit rfl)) dX0_add_59 h.1 ?_
    replace h := h.2
    refine j_mem (fun σ9 eσ9 => ?_)
    replace h := h σ9 eσ9
    refine j_aload_n C 0 dX0_add_60 rfl 0 rfl ?_
    refine j_getR C (d + 6) d 1 (shp_dyn hd) rfl rfl in_X0_add_X0 (by decide) (by decide +kernel) dX0_add_61 ?_
    refine j_aload_n C 0 dX0_add_64 rfl 0 rfl ?_
    refine j_getI C d 2 (shp_dyn hd) rfl rfl in_X0_add_X0 (by decide) (by decide +kernel) dX0_add_65 ?_
    refine j_aload_n C 0 dX0_add_68 rfl 0 rfl ?_
    refine j_getI C d 2 (shp_dyn hd) rfl rfl in_X0_add_X0 (by decide) (by decide +kernel) dX0_add_69 ?_
    refine j_iast C (d + 6) (shp_dynL hd) dX0_add_72 h.1 ?_
    replace h := h.2
    refine j_mem (fun σ10 eσ10 => ?_)
    replace h := h σ10 eσ10
    refine j_aload_n C 0 dX0_add_73 rfl 0 rfl ?_
    refine j_dup C dX0_add_74 rfl ?_
    refine j_getI C d 2 (shp_dyn hd) rfl rfl in_X0_add_X0 (by decide) (by decide +kernel) dX0_add_75 ?_
    refine j_iconst (v := (1 : Int32)) C dX0_add_78 (by decide) ?_
    refine j_iadd C dX0_add_79 ?_
    refine j_put C d 2 (shp_dyn hd) rfl rfl in_X0_add_X0 tyX0 tyX0_ok nmX0 (by decide) (by decide +kernel) rfl rfl rfl rfl dX0_add_80 ?_
    refine j_mem (fun σ11 eσ11 => ?_)
    replace h := h σ11 eσ11
    refine j_iconst (v := (1 : Int32)) C dX0_add_83 (by decide) ?_
    exact j_zret C dX0_add_84 (Or.inr rfl) h
  · replace h := h.2 c1
    refine j_iconst (v := (0 : Int32)) C dX0_add_9 (by decide) ?_
    exact j_zret C dX0_add_10 (Or.inl rfl) h
def wp_X0_copyFrom (d : Nat) (o : Nat) (σ : Mem) (Q : Mem → Prop) : Prop :=
  ∀ (P2 : Int32 → Mem → Prop),
  (∀ (x2 : Int32) (σ : Mem), (((4 : Int32) ≤ x2 → ∀ σ2 : Mem, σ2 = stC σ (d + 6) (va_cpy (σ.1 (o + 6)) (σ.1 (d + 6)) 0 0 6) → ∀ σ3 : Mem, σ3 = st1 σ2 d 2 (σ2.1 o 2) → ∀ σ4 : Mem, σ4 = st1 σ3 d 3 (σ3.1 o 3) → ∀ σ5 : Mem, σ5 = st1 σ4 d 4 (σ4.1 o 4) → ∀ σ6 : Mem, σ6 = st1 σ5 d 5 (σ5.1 o 5) → ∀ σ7 : Mem, σ7 = st1 σ6 d 6 (σ6.1 o 6) → ∀ σ8 : Mem, σ8 = st1 σ7 d 7 (σ7.1 o 7) → ∀ σ9 : Mem, σ9 = st1 σ8 d 8 (-4 : Int32) → Q σ9) ∧ (¬ (4 : Int32) ≤ x2 → vp_in x2 4 ∧ (vp_in x2 4 ∧ (∀ σ12 : Mem, σ12 = stC σ (d + 2 + 1 * (x2).toNatClampNeg) (va_cpy (σ.1 (o + 2 + 1 * (x2).toNatClampNeg)) (σ.1 (d + 2 + 1 * (x2).toNatClampNeg)) 0 0 6) → ∀ v13 : Int32, v13 = x2 + (1 : Int32) → P2 v13 σ12)))) → P2 x2 σ) →
  P2 (0 : Int32) σ
theorem in_X0_copyFrom_X0 : ∀ w ∈ wsX00, w ∈ wsX0_copyFrom := fun _ h => List.mem_cons_of_mem _ (List.mem_append_right _ h)
def rmX0_copyFrom : Room := { frames := 1, cells := 0, slots := 0, locals := 60 }
theorem hdX0_copyFrom : yX0_copyFrom.cls = RX0 ∧ yX0_copyFrom.cls ≠ "java/lang/invoke/MethodHandle" ∧ yX0_copyFrom.cls ≠ "java/lang/invoke/VarHandle" ∧ (parseMethodDescriptor yX0_copyFrom.desc).map (fun d => d.parameters.length) = some 1 := by decide +kernel
set_option maxHeartbeats 4000000 in
set_option maxRecDepth 100000 in
theorem c_X0_copyFrom {l : Launch} {E : EE} {d : Nat} {o : Nat} (hd : isDyn d = true) (ho : isDyn o = true) {σ : Mem} {Q : Mem → Prop} (h : wp_X0_copyFrom d o σ Q) : CtV l yX0_copyFrom wsX0_copyFrom rmX0_copyFrom E [.ref (eA E d), .ref (eA E o)] σ Q := by
  refine metV (cc := cX0_copyFrom) (nL := 3) (ret := none) (lv := [(0, .ref (eA E d)), (1, .ref (eA E o))]) (by decide) rfl (Nat.le_of_ble_eq_true rfl) rfl ?_
  intro p e s m args below meth c C
  unfold wp_X0_copyFrom at h
  replace h := h (fun (x2 : Int32) (σ : Mem) => J E p l e rmX0_copyFrom s m args below meth c (QV E below args s Q) 3 2 [(0, .ref (eA E d)), (1, .ref (eA E o)), (2, .int x2)] [] σ) (by
    intro x2 σ h
    refine j_iload_n C 2 dX0_copyFrom_2 rfl 2 rfl ?_
    refine j_iconst (v := (4 : Int32)) C dX0_copyFrom_3 (by decide) ?_
    refine j_icmp_ge C 32 dX0_copyFrom_4 (by decide) (fun c1 => ?_) (fun c1 => ?_)
    · replace h := h.1 c1
      refine j_aload_n C 1 dX0_copyFrom_32 rfl 1 rfl ?_
      refine j_getR C (o + 6) o 1 (shp_dyn ho) rfl rfl in_X0_copyFrom_X0 (by decide) (by decide +kernel) dX0_copyFrom_33 ?_
      refine j_iconst (v := (0 : Int32)) C dX0_copyFrom_36 (by decide) ?_
      refine j_aload_n C 0 dX0_copyFrom_37 rfl 0 rfl ?_
      refine j_getR C (d + 6) d 1 (shp_dyn hd) rfl rfl in_X0_copyFrom_X0 (by decide) (by decide +kernel) dX0_copyFrom_38 ?_
      refine j_iconst (v := (0 : Int32)) C dX0_copyFrom_41 (by decide) ?_
      refine j_bipush (v := (6 : Int32)) C dX0_copyFrom_42 (by decide) ?_
      refine j_copy (NN := 6) C (o + 6) (d + 6) (shp_dynL ho) (shp_dynL hd) (by decide +kernel) (by decide +kernel) (by decide +kernel) (by decide +kernel) (by decide) rfl (by decide) (by decide) (Nat.le_of_ble_eq_true rfl) (Nat.le_of_ble_eq_true rfl) dX0_copyFrom_44 ?_
      refine j_mem (fun σ2 eσ2 => ?_)
      replace h := h σ2 eσ2
      refine j_aload_n C 0 dX0_copyFrom_47 rfl 0 rfl ?_
      refine j_aload_n C 1 dX0_copyFrom_48 rfl 1 rfl ?_
      refine j_getI C o 2 (shp_dyn ho) rfl rfl in_X0_copyFrom_X0 (by decide) (by decide +kernel) dX0_copyFrom_49 ?_
      refine j_put C d 2 (shp_dyn hd) rfl rfl in_X0_copyFrom_X0 tyX0 tyX0_ok nmX0 (by decide) (by decide +kernel) rfl rfl rfl rfl dX0_copyFrom_52 ?_
      refine j_mem (fun σ3 eσ3 => ?_)
      replace h := h σ3 eσ3
      refine j_aload_n C 0 dX0_copyFrom_55 rfl 0 rfl ?_
      refine j_aload_n C 1 dX0_copyFrom_56 rfl 1 rfl ?_
      refine j_getI C o 3 (shp_dyn ho) rfl rfl in_X0_copyFrom_X0 (by decide) (by decide +kernel) dX0_copyFrom_57 ?_
      refine j_put C d 3 (shp_dyn hd) rfl rfl in_X0_copyFrom_X0 tyX0 tyX0_ok nmX0 (by decide) (by decide +kernel) rfl rfl rfl rfl dX0_copyFrom_60 ?_
      refine j_mem (fun σ4 eσ4 => ?_)
      replace h := h σ4 eσ4
      refine j_aload_n C 0 dX0_copyFrom_63 rfl 0 rfl ?_
      refine j_aload_n C 1 dX0_copyFrom_64 rfl 1 rfl ?_
      refine j_getI C o 4 (shp_dyn ho) rfl rfl in_X0_copyFrom_X0 (by decide) (by decide +kernel) dX0_copyFrom_65 ?_
      refine j_put C d 4 (shp_dyn hd) rfl rfl in_X0_copyFrom_X0 tyX0 tyX0_ok nmX0 (by decide) (by decide +kernel) rfl rfl rfl rfl dX0_copyFrom_68 ?_
      refine j_mem (fun σ5 eσ5 => ?_)
      replace h := h σ5 eσ5
      refine j_aload_n C 0 dX0_copyFrom_71 rfl 0 rfl ?_
      refine j_aload_n C 1 dX0_copyFrom_72 rfl 1 rfl ?_
      refine j_getI C o 5 (shp_dyn ho) rfl rfl in_X0_copyFrom_X0 (by decide) (by decide +kernel) dX0_copyFrom_73 ?_
      refine j_put C d 5 (shp_dyn hd) rfl rfl in_X0_copyFrom_X0 tyX0 tyX0_ok nmX0 (by decide) (by decide +kernel) rfl rfl rfl rfl dX0_copyFrom_76 ?_
      refine j_mem (fun σ6 eσ6 => ?_)
      replace h := h σ6 eσ6
      refine j_aload_n C 0 dX0_copyFrom_79 rfl 0 rfl ?_
      refine j_aload_n C 1 dX0_copyFrom_80 rfl 1 rfl ?_
      refine j_getI C o 6 (shp_dyn ho) rfl rfl in_X0_copyFrom_X0 (by decide) (by decide +kernel) dX0_copyFrom_81 ?_
      refine j_put C d 6 (shp_dyn hd) rfl rfl in_X0_copyFrom_X0 tyX0 tyX0_ok nmX0 (by decide) (by decide +kernel) rfl rfl rfl rfl dX0_copyFrom_84 ?_
      refine j_mem (fun σ7 eσ7 => ?_)
      replace h := h σ7 eσ7
      refine j_aload_n C 0 dX0_copyFrom_87 rfl 0 rfl ?_
      refine j_aload_n C 1 dX0_copyFrom_88 rfl 1 rfl ?_
      refine j_getI C o 7 (shp_dyn ho) rfl rfl in_X0_copyFrom_X0 (by decide) (by decide +kernel) dX0_copyFrom_89 ?_
      refine j_put C d 7 (shp_dyn hd) rfl rfl in_X0_copyFrom_X0 tyX0 tyX0_ok nmX0 (by decide) (by decide +kernel) rfl rfl rfl rfl dX0_copyFrom_92 ?_
      refine j_mem (fun σ8 eσ8 => ?_)
      replace h := h σ8 eσ8
      refine j_aload_n C 0 dX0_copyFrom_95 rfl 0 rfl ?_
      refine j_bipush (v := (-4 : Int32)) C dX0_copyFrom_96 (by decide) ?_
      refine j_put C d 8 (shp_dyn hd) rfl rfl in_X0_copyFrom_X0 tyX0 tyX0_ok nmX0 (by decide) (by decide +kernel) rfl rfl rfl rfl dX0_copyFrom_98 ?_
      refine j_mem (fun σ9 eσ9 => ?_)
      replace h := h σ9 eσ9
      exact j_vret C dX0_copyFrom_101 h
    · replace h := h.2 c1
      refine j_aload_n C 1 dX0_copyFrom_7 rfl 1 rfl ?_
      refine j_getR C (o + 1) o 0 (shp_dyn ho) rfl rfl in_X0_copyFrom_X0 (by decide) (by decide +kernel) dX0_copyFrom_8 ?_
      refine j_iload_n C 2 dX0_copyFrom_11 rfl 2 rfl ?_
      obtain ⟨b10, h⟩ := h
      refine j_aald C (o + 1) 5 (shp_dynT ho) rfl rfl dX0_copyFrom_12 b10 ?_
      refine j_iconst (v := (0 : Int32)) C dX0_copyFrom_13 (by decide) ?_
      refine j_aload_n C 0 dX0_copyFrom_14 rfl 0 rfl ?_
      refine j_getR C (d + 1) d 0 (shp_dyn hd) rfl rfl in_X0_copyFrom_X0 (by decide) (by decide +kernel) dX0_copyFrom_15 ?_
      refine j_iload_n C 2 dX0_copyFrom_18 rfl 2 rfl ?_
      obtain ⟨b11, h⟩ := h
      refine j_aald C (d + 1) 5 (shp_dynT hd) rfl rfl dX0_copyFrom_19 b11 ?_
      refine j_iconst (v := (0 : Int32)) C dX0_copyFrom_20 (by decide) ?_
      refine j_bipush (v := (6 : Int32)) C dX0_copyFrom_21 (by decide) ?_
      refine j_copy (NN := 6) C (o + 2 + 1 * (x2).toNatClampNeg) (d + 2 + 1 * (x2).toNatClampNeg) (shp_dynR ho b10) (shp_dynR hd b11) (by decide +kernel) (by decide +kernel) (by decide +kernel) (by decide +kernel) (by decide) rfl (by decide) (by decide) (Nat.le_of_ble_eq_true rfl) (Nat.le_of_ble_eq_true rfl) dX0_copyFrom_23 ?_
      refine j_mem (fun σ12 eσ12 => ?_)
      replace h := h σ12 eσ12
      obtain ⟨v13, ev13⟩ : ∃ y : Int32, y = x2 + (1 : Int32) := ⟨_, rfl⟩
      replace h := h v13 ev13
      refine j_iinc (v := v13) (lv' := [(2, .int v13), (0, .ref (eA E d)), (1, .ref (eA E o))]) C 2 dX0_copyFrom_26 2 rfl (by rw [ev13]; rfl) (by decide) rfl ?_
      refine j_goto C 2 dX0_copyFrom_29 (by decide) ?_
      exact j_sub (lv' := [(0, .ref (eA E d)), (1, .ref (eA E o)), (2, .int v13)]) [1, 2, 0] rfl h)
  refine j_iconst (v := (0 : Int32)) C dX0_copyFrom_0 (by decide) ?_
  refine j_istore_n (lv' := [(2, .int (0 : Int32)), (0, .ref (eA E d)), (1, .ref (eA E o))]) C 2 dX0_copyFrom_1 rfl (by decide) rfl ?_
  exact j_sub (lv' := [(0, .ref (eA E d)), (1, .ref (eA E o)), (2, .int (0 : Int32))]) [1, 2, 0] rfl h
def wp_X0_heightOf (d : Nat) (a1 : Int32) (σ : Mem) (Q : Int32 → Mem → Prop) : Prop :=
  vp_in a1 6 ∧ (∀ v2 : Int32, v2 = (σ.1 (d + 2 + 1 * ((2 : Int32)).toNatClampNeg) (a1).toNatClampNeg) → ∀ v3 : Int32, v3 = (v2 + ((v2 + (1 : Int32)) / (2 : Int32))) → ∀ v4 : Int32, v4 = (v3 / (2 : Int32)) → vp_in a1 6 ∧ (((σ.1 (d + 2 + 1 * ((0 : Int32)).toNatClampNeg) (a1).toNatClampNeg) = (1 : Int32) → Q v3 σ) ∧ ((σ.1 (d + 2 + 1 * ((0 : Int32)).toNatClampNeg) (a1).toNatClampNeg) = (2 : Int32) → Q v4 σ) ∧ ((σ.1 (d + 2 + 1 * ((0 : Int32)).toNatClampNeg) (a1).toNatClampNeg) = (3 : Int32) → Q (if (0 : Int32) < (v4 - (1 : Int32)) then (v4 - (1 : Int32)) else (0 : Int32)) σ) ∧ (¬ (σ.1 (d + 2 + 1 * ((0 : Int32)).toNatClampNeg) (a1).toNatClampNeg) = (1 : Int32) → ¬ (σ.1 (d + 2 + 1 * ((0 : Int32)).toNatClampNeg) (a1).toNatClampNeg) = (2 : Int32) → ¬ (σ.1 (d + 2 + 1 * ((0 : Int32)).toNatClampNeg) (a1).toNatClampNeg) = (3 : Int32) → Q v2 σ)))
theorem in_X0_heightOf_X0 : ∀ w ∈ wsX00, w ∈ wsX0_heightOf := fun _ h => List.mem_cons_of_mem _ (List.mem_append_right _ h)
def rmX0_heightOf : Room := { frames := 1, cells := 0, slots := 0, locals := 21 }
theorem hdX0_heightOf : yX0_heightOf.cls = RX0 ∧ yX0_heightOf.cls ≠ "java/lang/invoke/MethodHandle" ∧ yX0_heightOf.cls ≠ "java/lang/invoke/VarHandle" ∧ (parseMethodDescriptor yX0_heightOf.desc).map (fun d => d.parameters.length) = some 1 := by decide +kernel
set_option maxHeartbeats 4000000 in
set_option maxRecDepth 100000 in
theorem c_X0_heightOf {l : Launch} {E : EE} {d : Nat} {a1 : Int32} (hd : isDyn d = true) {σ : Mem} {Q : Int32 → Mem → Prop} (h : wp_X0_heightOf d a1 σ Q) : CtI l yX0_heightOf wsX0_heightOf rmX0_heightOf E [.ref (eA E d), .int a1] σ Q := by
  refine metI (cc := cX0_heightOf) (nL := 5) (ret := (some .int)) (lv := [(0, .ref (eA E d)), (1, .int a1)]) (by decide) rfl (Nat.le_of_ble_eq_true rfl) rfl ?_
  intro p e s m args below meth c C
  unfold wp_X0_heightOf at h
  refine j_aload_n C 0 dX0_heightOf_0 rfl 0 rfl ?_
  refine j_getR C (d + 1) d 0 (shp_dyn hd) rfl rfl in_X0_heightOf_X0 (by decide) (by decide +kernel) dX0_heightOf_1 ?_
  refine j_iconst (v := (2 : Int32)) C dX0_heightOf_4 (by decide) ?_
  refine j_aald C (d + 1) 5 (shp_dynT hd) rfl rfl dX0_heightOf_5 (in_lit rfl) ?_
  refine j_iload_n C 1 dX0_heightOf_6 rfl 1 rfl ?_
  refine j_iald C (d + 2 + 1 * ((2 : Int32)).toNatClampNeg) (shp_dynR hd (in_lit rfl)) dX0_heightOf_7 h.1 ?_
  replace h := h.2
  refine j_topi (fun v2 ev2 => ?_)
  replace h := h v2 ev2
  refine j_istore_n (lv' := [(2, .int v2), (0, .ref (eA E d)), (1, .int a1)]) C 2 dX0_heightOf_8 rfl (by decide) rfl ?_
  refine j_iload_n C 2 dX0_heightOf_9 rfl 0 rfl ?_
  refine j_iload_n C 2 dX0_heightOf_10 rfl 0 rfl ?_
  refine j_iconst (v := (1 : Int32)) C dX0_heightOf_11 (by decide) ?_
  refine j_iadd C dX0_heightOf_12 ?_
  refine j_iconst (v := (2 : Int32)) C dX0_heightOf_13 (by decide) ?_
  refine j_idiv C dX0_heightOf_14 (by decide) ?_
  refine j_iadd C dX0_heightOf_15 ?_
  refine j_topi (fun v3 ev3 => ?_)
  replace h := h v3 ev3
  refine j_istore_n (lv' := [(3, .int v3), (2, .int v2), (0, .ref (eA E d)), (1, .int a1)]) C 3 dX0_heightOf_16 rfl (by decide) rfl ?_
  refine j_iload_n C 3 dX0_heightOf_17 rfl 0 rfl ?_
  refine j_iconst (v := (2 : Int32)) C dX0_heightOf_18 (by decide) ?_
  refine j_idiv C dX0_heightOf_19 (by decide) ?_
  refine j_topi (fun v4 ev4 => ?_)
  replace h := h v4 ev4
  refine j_istore (lv' := [(4, .int v4), (3, .int v3), (2, .int v2), (0, .ref (eA E d)), (1, .int a1)]) C 4 dX0_heightOf_20 (by decide) rfl ?_
  refine j_aload_n C 0 dX0_heightOf_22 rfl 3 rfl ?_
  refine j_getR C (d + 1) d 0 (shp_dyn hd) rfl rfl in_X0_heightOf_X0 (by decide) (by decide +kernel) dX0_heightOf_23 ?_
  refine j_iconst (v := (0 : Int32)) C dX0_heightOf_26 (by decide) ?_
  refine j_aald C (d + 1) 5 (shp_dynT hd) rfl rfl dX0_heightOf_27 (in_lit rfl) ?_
  refine j_iload_n C 1 dX0_heightOf_28 rfl 4 rfl ?_
  refine j_iald C (d + 2 + 1 * ((0 : Int32)).toNatClampNeg) (shp_dynR hd (in_lit rfl)) dX0_heightOf_29 h.1 ?_
  replace h := h.2
  by_cases c6 : (σ.1 (d + 2 + 1 * ((0 : Int32)).toNatClampNeg) (a1).toNatClampNeg) = (1 : Int32)
  · replace h := h.1 c6
    refine j_tabIn (off := 26) C 56 dX0_heightOf_30 (1 : Int32) c6 (by decide) (by decide) (by decide) (by decide) ?_
    refine j_iload_n C 3 dX0_heightOf_56 rfl 1 rfl ?_
    exact j_iret C dX0_heightOf_57 h
  by_cases c7 : (σ.1 (d + 2 + 1 * ((0 : Int32)).toNatClampNeg) (a1).toNatClampNeg) = (2 : Int32)
  · replace h := h.2.1 c7
    refine j_tabIn (off := 28) C 58 dX0_heightOf_30 (2 : Int32) c7 (by decide) (by decide) (by decide) (by decide) ?_
    refine j_iload C 4 dX0_heightOf_58 0 rfl ?_
    exact j_iret C dX0_heightOf_60 h
  by_cases c8 : (σ.1 (d + 2 + 1 * ((0 : Int32)).toNatClampNeg) (a1).toNatClampNeg) = (3 : Int32)
  · replace h := h.2.2.1 c8
    refine j_tabIn (off := 31) C 61 dX0_heightOf_30 (3 : Int32) c8 (by decide) (by decide) (by decide) (by decide) ?_
    refine j_iconst (v := (0 : Int32)) C dX0_heightOf_61 (by decide) ?_
    refine j_iload C 4 dX0_heightOf_62 0 rfl ?_
    refine j_iconst (v := (1 : Int32)) C dX0_heightOf_64 (by decide) ?_
    refine j_isub C dX0_heightOf_65 ?_
    refine j_mmax C (by decide +kernel) (by decide +kernel) (by decide +kernel) (by decide +kernel) (Nat.le_of_ble_eq_true rfl) (Nat.le_of_ble_eq_true rfl) dX0_heightOf_66 ?_
    exact j_iret C dX0_heightOf_69 h
  replace h := h.2.2.2 c6 c7 c8
  refine j_tabOut C 70 dX0_heightOf_30 (tab_out (lo := 1) (hi := 3) (fun v h1 h2 => by rcases (show v = 1 ∨ v = 2 ∨ v = 3 by omega) with rfl | rfl | rfl <;> assumption)) (by decide) ?_
  refine j_iload_n C 2 dX0_heightOf_70 rfl 2 rfl ?_
  exact j_iret C dX0_heightOf_71 h
def wp_X0_placeOf (d : Nat) (a1 : Int32) (σ : Mem) (Q : Int32 → Mem → Prop) : Prop :=
  ∀ (P2 : Int32 → Mem → Prop),
  (∀ (x2 : Int32) (σ : Mem), (((σ.1 d 2) ≤ x2 → Q (-1 : Int32) σ) ∧ (¬ (σ.1 d 2) ≤ x2 → vp_in x2 6 ∧ ((¬ (σ.1 (d + 6) (x2).toNatClampNeg) = a1 → ∀ v3 : Int32, v3 = x2 + (1 : Int32) → P2 v3 σ) ∧ ((σ.1 (d + 6) (x2).toNatClampNeg) = a1 → Q x2 σ)))) → P2 x2 σ) →
  P2 (0 : Int32) σ
theorem in_X0_placeOf_X0 : ∀ w ∈ wsX00, w ∈ wsX0_placeOf := fun _ h => List.mem_cons_of_mem _ (List.mem_append_right _ h)
def rmX0_placeOf : Room := { frames := 0, cells := 0, slots := 0, locals := 0 }
theorem hdX0_placeOf : yX0_placeOf.cls = RX0 ∧ yX0_placeOf.cls ≠ "java/lang/invoke/MethodHandle" ∧ yX0_placeOf.cls ≠ "java/lang/invoke/VarHandle" ∧ (parseMethodDescriptor yX0_placeOf.desc).map (fun d => d.parameters.length) = some 1 := by decide +kernel
set_option maxHeartbeats 4000000 in
set_option maxRecDepth 100000 in
theorem c_X0_placeOf {l : Launch} {E : EE} {d : Nat} {a1 : Int32} (hd : isDyn d = true) {σ : Mem} {Q : Int32 → Mem → Prop} (h : wp_X0_placeOf d a1 σ Q) : CtI l yX0_placeOf wsX0_placeOf rmX0_placeOf E [.ref (eA E d), .int a1] σ Q := by
  refine metI (cc := cX0_placeOf) (nL := 3) (ret := (some .int)) (lv := [(0, .ref (eA E d)), (1, .int a1)]) (by decide) rfl (Nat.le_of_ble_eq_true rfl) rfl ?_
  intro p e s m args below meth c C
  unfold wp_X0_placeOf at h
  replace h := h (fun (x2 : Int32) (σ : Mem) => J E p l e rmX0_placeOf s m args below meth c (QI E below args s Q) 3 2 [(0, .ref (eA E d)), (1, .int a1), (2, .int x2)] [] σ) (by
    intro x2 σ h
    refine j_iload_n C 2 dX0_placeOf_2 rfl 2 rfl ?_
    refine j_aload_n C 0 dX0_placeOf_3 rfl 0 rfl ?_
    refine j_getI C d 2 (shp_dyn hd) rfl rfl in_X0_placeOf_X0 (by decide) (by decide +kernel) dX0_placeOf_4 ?_
    refine j_icmp_ge C 28 dX0_placeOf_7 (by decide) (fun c1 => ?_) (fun c1 => ?_)
    · replace h := h.1 c1
      refine j_iconst (v := (-1 : Int32)) C dX0_placeOf_28 (by decide) ?_
      exact j_iret C dX0_placeOf_29 h
    · replace h := h.2 c1
      refine j_aload_n C 0 dX0_placeOf_10 rfl 0 rfl ?_
      refine j_getR C (d + 6) d 1 (shp_dyn hd) rfl rfl in_X0_placeOf_X0 (by decide) (by decide +kernel) dX0_placeOf_11 ?_
      refine j_iload_n C 2 dX0_placeOf_14 rfl 2 rfl ?_
      refine j_iald C (d + 6) (shp_dynL hd) dX0_placeOf_15 h.1 ?_
      replace h := h.2
      refine j_iload_n C 1 dX0_placeOf_16 rfl 1 rfl ?_
      refine j_icmp_ne C 22 dX0_placeOf_17 (by decide) (fun c2 => ?_) (fun c2 => ?_)
      · replace h := h.1 c2
        obtain ⟨v3, ev3⟩ : ∃ y : Int32, y = x2 + (1 : Int32) := ⟨_, rfl⟩
        replace h := h v3 ev3
        refine j_iinc (v := v3) (lv' := [(2, .int v3), (0, .ref (eA E d)), (1, .int a1)]) C 2 dX0_placeOf_22 2 rfl (by rw [ev3]; rfl) (by decide) rfl ?_
        refine j_goto C 2 dX0_placeOf_25 (by decide) ?_
        exact j_sub (lv' := [(0, .ref (eA E d)), (1, .int a1), (2, .int v3)]) [1, 2, 0] rfl h
      · replace h := h.2 c2
        refine j_iload_n C 2 dX0_placeOf_20 rfl 2 rfl ?_
        exact j_iret C dX0_placeOf_21 h)
  refine j_iconst (v := (0 : Int32)) C dX0_placeOf_0 (by decide) ?_
  refine j_istore_n (lv' := [(2, .int (0 : Int32)), (0, .ref (eA E d)), (1, .int a1)]) C 2 dX0_placeOf_1 rfl (by decide) rfl ?_
  exact j_sub (lv' := [(0, .ref (eA E d)), (1, .int a1), (2, .int (0 : Int32))]) [1, 2, 0] rfl h
def wp_X5_isTrait (a0 : Int32) (a1 : Int32) (σ : Mem) (Q : Int32 → Mem → Prop) : Prop :=
  vp_in a0 4 ∧ (vp_in a0 4 ∧ (wp_X5_within a1 ((tLeast.getD (a0).toNatClampNeg 0)) ((tGreat.getD (a0).toNatClampNeg 0)) σ (fun r2 σ1 => (r2 = 0 ∨ r2 = 1) ∧ Q r2 σ1)))
def rmX5_isTrait : Room := { frames := 1, cells := 0, slots := 0, locals := 22 }
theorem hdX5_isTrait : yX5_isTrait.cls = RX5 ∧ yX5_isTrait.cls ≠ "java/lang/invoke/MethodHandle" ∧ yX5_isTrait.cls ≠ "java/lang/invoke/VarHandle" ∧ (parseMethodDescriptor yX5_isTrait.desc).map (fun d => d.parameters.length) = some 2 := by decide +kernel
set_option maxHeartbeats 4000000 in
set_option maxRecDepth 100000 in
theorem c_X5_isTrait {l : Launch} {E : EE} {a0 : Int32} {a1 : Int32}  {σ : Mem} {Q : Int32 → Mem → Prop} (h : wp_X5_isTrait a0 a1 σ Q) : CtI l yX5_isTrait wsX5_isTrait rmX5_isTrait E [.int a0, .int a1] σ Q := by
  refine metI (cc := cX5_isTrait) (nL := 2) (ret := (some .boolean)) (lv := [(0, .int a0), (1, .int a1)]) (by decide) rfl (Nat.le_of_ble_eq_true rfl) rfl ?_
  intro p e s m args below meth c C
  unfold wp_X5_isTrait at h
  refine j_iload_n C 1 dX5_isTrait_0 rfl 1 rfl ?_
  refine j_tget C 0 (by decide) (by decide +kernel) dX5_isTrait_1 ?_
  refine j_iload_n C 0 dX5_isTrait_4 rfl 0 rfl ?_
  refine j_tald C 0 (by decide) dX5_isTrait_5 h.1 ?_
  replace h := h.2
  refine j_tget C 1 (by decide) (by decide +kernel) dX5_isTrait_6 ?_
  refine j_iload_n C 0 dX5_isTrait_9 rfl 0 rfl ?_
  refine j_tald C 1 (by decide) dX5_isTrait_10 h.1 ?_
  replace h := h.2
  refine j_callSI (As := [.int a1, .int (tLeast.getD (a0).toNatClampNeg 0), .int (tGreat.getD (a0).toNatClampNeg 0)]) (rest := []) C (c_X5_within h) (va_cwS 3 C.2.2.2.2.2.1 gX5_isTrait_X5_within rfl rfl rfl hdX5_within.2 ⟨Nat.le_of_ble_eq_true rfl, Nat.le_of_ble_eq_true rfl⟩) rfl rfl (Nat.le_of_ble_eq_true rfl) dX5_isTrait_11 (fun r2 σ1 h => ?_)
  exact j_zret C dX5_isTrait_14 h.1 h.2
def wp_X0_takes (d : Nat) (a1 : Int32) (a2 : Int32) (a3 : Int32) (σ : Mem) (Q : Int32 → Mem → Prop) : Prop :=
  wp_X5_within a1 (0 : Int32) (((σ.1 d 2) - (1 : Int32))) σ (fun r2 σ1 => (r2 = 0 → Q (0 : Int32) σ1) ∧ (¬ r2 = 0 → wp_X5_within a2 (0 : Int32) (3 : Int32) σ1 (fun r5 σ4 => (r5 = 0 → Q (0 : Int32) σ4) ∧ (¬ r5 = 0 → wp_X5_isTrait a2 a3 σ4 (fun r8 σ7 => (r8 = 0 → Q (0 : Int32) σ7) ∧ (¬ r8 = 0 → Q (1 : Int32) σ7))))))
theorem in_X0_takes_X0 : ∀ w ∈ wsX00, w ∈ wsX0_takes := fun _ h => List.mem_cons_of_mem _ (List.mem_append_right _ h)
def rmX0_takes : Room := { frames := 2, cells := 0, slots := 0, locals := 43 }
theorem hdX0_takes : yX0_takes.cls = RX0 ∧ yX0_takes.cls ≠ "java/lang/invoke/MethodHandle" ∧ yX0_takes.cls ≠ "java/lang/invoke/VarHandle" ∧ (parseMethodDescriptor yX0_takes.desc).map (fun d => d.parameters.length) = some 3 := by decide +kernel
set_option maxHeartbeats 4000000 in
set_option maxRecDepth 100000 in
theorem c_X0_takes {l : Launch} {E : EE} {d : Nat} {a1 : Int32} {a2 : Int32} {a3 : Int32} (hd : isDyn d = true) {σ : Mem} {Q : Int32 → Mem → Prop} (h : wp_X0_takes d a1 a2 a3 σ Q) : CtI l yX0_takes wsX0_takes rmX0_takes E [.ref (eA E d), .int a1, .int a2, .int a3] σ Q := by
  refine metI (cc := cX0_takes) (nL := 4) (ret := (some .boolean)) (lv := [(0, .ref (eA E d)), (1, .int a1), (2, .int a2), (3, .int a3)]) (by decide) rfl (Nat.le_of_ble_eq_true rfl) rfl ?_
  intro p e s m args below meth c C
  unfold wp_X0_takes at h
  refine j_iload_n C 1 dX0_takes_0 rfl 1 rfl ?_
  refine j_iconst (v := (0 : Int32)) C dX0_takes_1 (by decide) ?_
  refine j_aload_n C 0 dX0_takes_2 rfl 0 rfl ?_
  refine j_getI C d 2 (shp_dyn hd) rfl rfl in_X0_takes_X0 (by decide) (by decide +kernel) dX0_takes_3 ?_
  refine j_iconst (v := (1 : Int32)) C dX0_takes_6 (by decide) ?_
  refine j_isub C dX0_takes_7 ?_
  refine j_callNI (As := [.int a1, .int (0 : Int32), .int ((σ.1 d 2) - (1 : Int32))]) (rest := []) C (c_X5_within h) ⟨va_cnB 3 C.2.2.2.2.2.1 gX0_takes_X5_within_n48 rfl rfl rfl C.2.2.2.2.2.2.2.1.2.1.2.1 (C.2.2.2.2.2.1 _ (by decide +kernel)) hdX5_within.2 ⟨Nat.le_of_ble_eq_true rfl, Nat.le_of_ble_eq_true rfl⟩, C.2.2.2.2.2.1 _ (by decide +kernel), trivial⟩ rfl rfl (Nat.le_of_ble_eq_true rfl) dX0_takes_8 (fun r2 σ1 h => ?_)
  refine j_if_eq C 35 dX0_takes_11 (by decide) (fun c3 => ?_) (fun c3 => ?_)
  · replace h := h.1 c3
    refine j_iconst (v := (0 : Int32)) C dX0_takes_35 (by decide) ?_
    exact j_zret C dX0_takes_36 (Or.inl rfl) h
  · replace h := h.2 c3
    refine j_iload_n C 2 dX0_takes_14 rfl 2 rfl ?_
    refine j_iconst (v := (0 : Int32)) C dX0_takes_15 (by decide) ?_
    refine j_iconst (v := (3 : Int32)) C dX0_takes_16 (by decide) ?_
    refine j_callNI (As := [.int a2, .int (0 : Int32), .int (3 : Int32)]) (rest := []) C (c_X5_within h) ⟨va_cnB 3 C.2.2.2.2.2.1 gX0_takes_X5_within_n48 rfl rfl rfl C.2.2.2.2.2.2.2.1.2.1.2.1 (C.2.2.2.2.2.1 _ (by decide +kernel)) hdX5_within.2 ⟨Nat.le_of_ble_eq_true rfl, Nat.le_of_ble_eq_true rfl⟩, C.2.2.2.2.2.1 _ (by decide +kernel), trivial⟩ rfl rfl (Nat.le_of_ble_eq_true rfl) dX0_takes_17 (fun r5 σ4 h => ?_)
    refine j_if_eq C 35 dX0_takes_20 (by decide) (fun c6 => ?_) (fun c6 => ?_)
    · replace h := h.1 c6
      refine j_iconst (v := (0 : Int32)) C dX0_takes_35 (by decide) ?_
      exact j_zret C dX0_takes_36 (Or.inl rfl) h
    · replace h := h.2 c6
      refine j_iload_n C 2 dX0_takes_23 rfl 2 rfl ?_
      refine j_iload_n C 3 dX0_takes_24 rfl 3 rfl ?_
      refine j_callNI (As := [.int a2, .int a3]) (rest := []) C (c_X5_isTrait h) ⟨va_cnB 2 C.2.2.2.2.2.1 gX0_takes_X5_isTrait_n52 rfl rfl rfl C.2.2.2.2.2.2.2.1.2.1.2.2.1 (C.2.2.2.2.2.1 _ (by decide +kernel)) hdX5_isTrait.2 ⟨Nat.le_of_ble_eq_true rfl, Nat.le_of_ble_eq_true rfl⟩, C.2.2.2.2.2.1 _ (by decide +kernel), trivial⟩ rfl rfl (Nat.le_of_ble_eq_true rfl) dX0_takes_25 (fun r8 σ7 h => ?_)
      refine j_if_eq C 35 dX0_takes_28 (by decide) (fun c9 => ?_) (fun c9 => ?_)
      · replace h := h.1 c9
        refine j_iconst (v := (0 : Int32)) C dX0_takes_35 (by decide) ?_
        exact j_zret C dX0_takes_36 (Or.inl rfl) h
      · replace h := h.2 c9
        refine j_iconst (v := (1 : Int32)) C dX0_takes_31 (by decide) ?_
        refine j_goto C 36 dX0_takes_32 (by decide) ?_
        exact j_zret C dX0_takes_36 (Or.inr rfl) h
def wp_X0_swap (d : Nat) (a1 : Int32) (a2 : Int32) (σ : Mem) (Q : Mem → Prop) : Prop :=
  vp_in a1 6 ∧ (∀ v1 : Int32, v1 = (σ.1 (d + 6) (a1).toNatClampNeg) → vp_in a2 6 ∧ (vp_in a1 6 ∧ (∀ σ2 : Mem, σ2 = st1 σ (d + 6) (a1).toNatClampNeg (σ.1 (d + 6) (a2).toNatClampNeg) → vp_in a2 6 ∧ (∀ σ3 : Mem, σ3 = st1 σ2 (d + 6) (a2).toNatClampNeg v1 → Q σ3))))
theorem in_X0_swap_X0 : ∀ w ∈ wsX00, w ∈ wsX0_swap := fun _ h => List.mem_cons_of_mem _ (List.mem_append_right _ h)
def rmX0_swap : Room := { frames := 0, cells := 0, slots := 0, locals := 0 }
theorem hdX0_swap : yX0_swap.cls = RX0 ∧ yX0_swap.cls ≠ "java/lang/invoke/MethodHandle" ∧ yX0_swap.cls ≠ "java/lang/invoke/VarHandle" ∧ (parseMethodDescriptor yX0_swap.desc).map (fun d => d.parameters.length) = some 2 := by decide +kernel
set_option maxHeartbeats 4000000 in
set_option maxRecDepth 100000 in
theorem c_X0_swap {l : Launch} {E : EE} {d : Nat} {a1 : Int32} {a2 : Int32} (hd : isDyn d = true) {σ : Mem} {Q : Mem → Prop} (h : wp_X0_swap d a1 a2 σ Q) : CtV l yX0_swap wsX0_swap rmX0_swap E [.ref (eA E d), .int a1, .int a2] σ Q := by
  refine metV (cc := cX0_swap) (nL := 4) (ret := none) (lv := [(0, .ref (eA E d)), (1, .int a1), (2, .int a2)]) (by decide) rfl (Nat.le_of_ble_eq_true rfl) rfl ?_
  intro p e s m args below meth c C
  unfold wp_X0_swap at h
  refine j_aload_n C 0 dX0_swap_0 rfl 0 rfl ?_
  refine j_getR C (d + 6) d 1 (shp_dyn hd) rfl rfl in_X0_swap_X0 (by decide) (by decide +kernel) dX0_swap_1 ?_
  refine j_iload_n C 1 dX0_swap_4 rfl 1 rfl ?_
  refine j_iald C (d + 6) (shp_dynL hd) dX0_swap_5 h.1 ?_
  replace h := h.2
  refine j_topi (fun v1 ev1 => ?_)
  replace h := h v1 ev1
  refine j_istore_n (lv' := [(3, .int v1), (0, .ref (eA E d)), (1, .int a1), (2, .int a2)]) C 3 dX0_swap_6 rfl (by decide) rfl ?_
  refine j_aload_n C 0 dX0_swap_7 rfl 1 rfl ?_
  refine j_getR C (d + 6) d 1 (shp_dyn hd) rfl rfl in_X0_swap_X0 (by decide) (by decide +kernel) dX0_swap_8 ?_
  refine j_iload_n C 1 dX0_swap_11 rfl 2 rfl ?_
  refine j_aload_n C 0 dX0_swap_12 rfl 1 rfl ?_
  refine j_getR C (d + 6) d 1 (shp_dyn hd) rfl rfl in_X0_swap_X0 (by decide) (by decide +kernel) dX0_swap_13 ?_
  refine j_iload_n C 2 dX0_swap_16 rfl 3 rfl ?_
  refine j_iald C (d + 6) (shp_dynL hd) dX0_swap_17 h.1 ?_
  replace h := h.2
  refine j_iast C (d + 6) (shp_dynL hd) dX0_swap_18 h.1 ?_
  replace h := h.2
  refine j_mem (fun σ2 eσ2 => ?_)
  replace h := h σ2 eσ2
  refine j_aload_n C 0 dX0_swap_19 rfl 1 rfl ?_
  refine j_getR C (d + 6) d 1 (shp_dyn hd) rfl rfl in_X0_swap_X0 (by decide) (by decide +kernel) dX0_swap_20 ?_
  refine j_iload_n C 2 dX0_swap_23 rfl 3 rfl ?_
  refine j_iload_n C 3 dX0_swap_24 rfl 0 rfl ?_
  refine j_iast C (d + 6) (shp_dynL hd) dX0_swap_25 h.1 ?_
  replace h := h.2
  refine j_mem (fun σ3 eσ3 => ?_)
  replace h := h σ3 eσ3
  exact j_vret C dX0_swap_26 h
def wp_X0_clears (d : Nat) (σ : Mem) (Q : Int32 → Mem → Prop) : Prop :=
  vp_in (σ.1 (d + 6) ((1 : Int32)).toNatClampNeg) 6 ∧ (wp_X0_heightOf d ((σ.1 (d + 6) ((0 : Int32)).toNatClampNeg)) σ (fun r3 σ2 => (((σ.1 (d + 2 + 1 * ((1 : Int32)).toNatClampNeg) ((σ.1 (d + 6) ((1 : Int32)).toNatClampNeg)).toNatClampNeg) - (σ.1 d 3)) < r3 → Q (0 : Int32) σ2) ∧ (¬ ((σ.1 (d + 2 + 1 * ((1 : Int32)).toNatClampNeg) ((σ.1 (d + 6) ((1 : Int32)).toNatClampNeg)).toNatClampNeg) - (σ.1 d 3)) < r3 → Q (1 : Int32) σ2)))
theorem in_X0_clears_X0 : ∀ w ∈ wsX00, w ∈ wsX0_clears := fun _ h => List.mem_cons_of_mem _ (List.mem_append_right _ h)
def rmX0_clears : Room := { frames := 2, cells := 0, slots := 0, locals := 45 }
theorem hdX0_clears : yX0_clears.cls = RX0 ∧ yX0_clears.cls ≠ "java/lang/invoke/MethodHandle" ∧ yX0_clears.cls ≠ "java/lang/invoke/VarHandle" ∧ (parseMethodDescriptor yX0_clears.desc).map (fun d => d.parameters.length) = some 0 := by decide +kernel
set_option maxHeartbeats 4000000 in
set_option maxRecDepth 100000 in
theorem c_X0_clears {l : Launch} {E : EE} {d : Nat} (hd : isDyn d = true) {σ : Mem} {Q : Int32 → Mem → Prop} (h : wp_X0_clears d σ Q) : CtI l yX0_clears wsX0_clears rmX0_clears E [.ref (eA E d)] σ Q := by
  refine metI (cc := cX0_clears) (nL := 1) (ret := (some .boolean)) (lv := [(0, .ref (eA E d))]) (by decide) rfl (Nat.le_of_ble_eq_true rfl) rfl ?_
  intro p e s m args below meth c C
  unfold wp_X0_clears at h
  refine j_aload_n C 0 dX0_clears_0 rfl 0 rfl ?_
  refine j_getR C (d + 1) d 0 (shp_dyn hd) rfl rfl in_X0_clears_X0 (by decide) (by decide +kernel) dX0_clears_1 ?_
  refine j_iconst (v := (1 : Int32)) C dX0_clears_4 (by decide) ?_
  refine j_aald C (d + 1) 5 (shp_dynT hd) rfl rfl dX0_clears_5 (in_lit rfl) ?_
  refine j_aload_n C 0 dX0_clears_6 rfl 0 rfl ?_
  refine j_getR C (d + 6) d 1 (shp_dyn hd) rfl rfl in_X0_clears_X0 (by decide) (by decide +kernel) dX0_clears_7 ?_
  refine j_iconst (v := (1 : Int32)) C dX0_clears_10 (by decide) ?_
  refine j_iald C (d + 6) (shp_dynL hd) dX0_clears_11 (in_lit rfl) ?_
  refine j_iald C (d + 2 + 1 * ((1 : Int32)).toNatClampNeg) (shp_dynR hd (in_lit rfl)) dX0_clears_12 h.1 ?_
  replace h := h.2
  refine j_aload_n C 0 dX0_clears_13 rfl 0 rfl ?_
  refine j_getI C d 3 (shp_dyn hd) rfl rfl in_X0_clears_X0 (by decide) (by decide +kernel) dX0_clears_14 ?_
  refine j_isub C dX0_clears_17 ?_
  refine j_aload_n C 0 dX0_clears_18 rfl 0 rfl ?_
  refine j_aload_n C 0 dX0_clears_19 rfl 0 rfl ?_
  refine j_getR C (d + 6) d 1 (shp_dyn hd) rfl rfl in_X0_clears_X0 (by decide) (by decide +kernel) dX0_clears_20 ?_
  refine j_iconst (v := (0 : Int32)) C dX0_clears_23 (by decide) ?_
  refine j_iald C (d + 6) (shp_dynL hd) dX0_clears_24 (in_lit rfl) ?_
  refine j_callVI (As := [.int (σ.1 (d + 6) ((0 : Int32)).toNatClampNeg)]) (rest := [.int ((σ.1 (d + 2 + 1 * ((1 : Int32)).toNatClampNeg) ((σ.1 (d + 6) ((1 : Int32)).toNatClampNeg)).toNatClampNeg) - (σ.1 d 3))]) C d (c_X0_heightOf hd h) (cwV 1 C.2.2.2.2.2.1 gX0_clears_X0_heightOf rfl rfl rfl hdX0_heightOf ⟨Nat.le_of_ble_eq_true rfl, Nat.le_of_ble_eq_true rfl⟩) (shp_dyn hd) rfl rfl rfl (Nat.le_of_ble_eq_true rfl) dX0_clears_25 (fun r3 σ2 h => ?_)
  refine j_icmp_lt C 35 dX0_clears_28 (by decide) (fun c4 => ?_) (fun c4 => ?_)
  · replace h := h.1 c4
    refine j_iconst (v := (0 : Int32)) C dX0_clears_35 (by decide) ?_
    exact j_zret C dX0_clears_36 (Or.inl rfl) h
  · replace h := h.2 c4
    refine j_iconst (v := (1 : Int32)) C dX0_clears_31 (by decide) ?_
    refine j_goto C 36 dX0_clears_32 (by decide) ?_
    exact j_zret C dX0_clears_36 (Or.inr rfl) h
def wp_X0_sendBehind (d : Nat) (a1 : Int32) (σ : Mem) (Q : Mem → Prop) : Prop :=
  ∀ (P11 : Int32 → Int32 → Mem → Prop),
  (∀ (x2 : Int32) (x3 : Int32) (σ : Mem), (((σ.1 d 2) ≤ x3 → vp_in ((σ.1 d 2) - (1 : Int32)) 6 ∧ (∀ σ2 : Mem, σ2 = st1 σ (d + 6) (((σ.1 d 2) - (1 : Int32))).toNatClampNeg x2 → Q σ2)) ∧ (¬ (σ.1 d 2) ≤ x3 → vp_in x3 6 ∧ (vp_in (x3 - (1 : Int32)) 6 ∧ (∀ σ3 : Mem, σ3 = st1 σ (d + 6) ((x3 - (1 : Int32))).toNatClampNeg (σ.1 (d + 6) (x3).toNatClampNeg) → ∀ v4 : Int32, v4 = x3 + (1 : Int32) → P11 x2 v4 σ3)))) → P11 x2 x3 σ) →
  vp_in a1 6 ∧ (∀ v5 : Int32, v5 = (σ.1 (d + 6) (a1).toNatClampNeg) → ∀ v6 : Int32, v6 = (a1 + (1 : Int32)) → P11 v5 v6 σ)
theorem in_X0_sendBehind_X0 : ∀ w ∈ wsX00, w ∈ wsX0_sendBehind := fun _ h => List.mem_cons_of_mem _ (List.mem_append_right _ h)
def rmX0_sendBehind : Room := { frames := 0, cells := 0, slots := 0, locals := 0 }
theorem hdX0_sendBehind : yX0_sendBehind.cls = RX0 ∧ yX0_sendBehind.cls ≠ "java/lang/invoke/MethodHandle" ∧ yX0_sendBehind.cls ≠ "java/lang/invoke/VarHandle" ∧ (parseMethodDescriptor yX0_sendBehind.desc).map (fun d => d.parameters.length) = some 1 := by decide +kernel
set_option maxHeartbeats 4000000 in
set_option maxRecDepth 100000 in
theorem c_X0_sendBehind {l : Launch} {E : EE} {d : Nat} {a1 : Int32} (hd : isDyn d = true) {σ : Mem} {Q : Mem → Prop} (h : wp_X0_sendBehind d a1 σ Q) : CtV l yX0_sendBehind wsX0_sendBehind rmX0_sendBehind E [.ref (eA E d), .int a1] σ Q := by
  refine metV (cc := cX0_sendBehind) (nL := 4) (ret := none) (lv := [(0, .ref (eA E d)), (1, .int a1)]) (by decide) rfl (Nat.le_of_ble_eq_true rfl) rfl ?_
  intro p e s m args below meth c C
  unfold wp_X0_sendBehind at h
  replace h := h (fun (x2 : Int32) (x3 : Int32) (σ : Mem) => J E p l e rmX0_sendBehind s m args below meth c (QV E below args s Q) 4 11 [(0, .ref (eA E d)), (2, .int x2), (3, .int x3)] [] σ) (by
    intro x2 x3 σ h
    refine j_iload_n C 3 dX0_sendBehind_11 rfl 2 rfl ?_
    refine j_aload_n C 0 dX0_sendBehind_12 rfl 0 rfl ?_
    refine j_getI C d 2 (shp_dyn hd) rfl rfl in_X0_sendBehind_X0 (by decide) (by decide +kernel) dX0_sendBehind_13 ?_
    refine j_icmp_ge C 39 dX0_sendBehind_16 (by decide) (fun c1 => ?_) (fun c1 => ?_)
    · replace h := h.1 c1
      refine j_aload_n C 0 dX0_sendBehind_39 rfl 0 rfl ?_
      refine j_getR C (d + 6) d 1 (shp_dyn hd) rfl rfl in_X0_sendBehind_X0 (by decide) (by decide +kernel) dX0_sendBehind_40 ?_
      refine j_aload_n C 0 dX0_sendBehind_43 rfl 0 rfl ?_
      refine j_getI C d 2 (shp_dyn hd) rfl rfl in_X0_sendBehind_X0 (by decide) (by decide +kernel) dX0_sendBehind_44 ?_
      refine j_iconst (v := (1 : Int32)) C dX0_sendBehind_47 (by decide) ?_
      refine j_isub C dX0_sendBehind_48 ?_
      refine j_iload_n C 2 dX0_sendBehind_49 rfl 1 rfl ?_
      refine j_iast C (d + 6) (shp_dynL hd) dX0_sendBehind_50 h.1 ?_
      replace h := h.2
      refine j_mem (fun σ2 eσ2 => ?_)
      replace h := h σ2 eσ2
      exact j_vret C dX0_sendBehind_51 h
    · replace h := h.2 c1
      refine j_aload_n C 0 dX0_sendBehind_19 rfl 0 rfl ?_
      refine j_getR C (d + 6) d 1 (shp_dyn hd) rfl rfl in_X0_sendBehind_X0 (by decide) (by decide +kernel) dX0_sendBehind_20 ?_
      refine j_iload_n C 3 dX0_sendBehind_23 rfl 2 rfl ?_
      refine j_iconst (v := (1 : Int32)) C dX0_sendBehind_24 (by decide) ?_
      refine j_isub C dX0_sendBehind_25 ?_
      refine j_aload_n C 0 dX0_sendBehind_26 rfl 0 rfl ?_
      refine j_getR C (d + 6) d 1 (shp_dyn hd) rfl rfl in_X0_sendBehind_X0 (by decide) (by decide +kernel) dX0_sendBehind_27 ?_
      refine j_iload_n C 3 dX0_sendBehind_30 rfl 2 rfl ?_
      refine j_iald C (d + 6) (shp_dynL hd) dX0_sendBehind_31 h.1 ?_
      replace h := h.2
      refine j_iast C (d + 6) (shp_dynL hd) dX0_sendBehind_32 h.1 ?_
      replace h := h.2
      refine j_mem (fun σ3 eσ3 => ?_)
      replace h := h σ3 eσ3
      obtain ⟨v4, ev4⟩ : ∃ y : Int32, y = x3 + (1 : Int32) := ⟨_, rfl⟩
      replace h := h v4 ev4
      refine j_iinc (v := v4) (lv' := [(3, .int v4), (0, .ref (eA E d)), (2, .int x2)]) C 3 dX0_sendBehind_33 2 rfl (by rw [ev4]; rfl) (by decide) rfl ?_
      refine j_goto C 11 dX0_sendBehind_36 (by decide) ?_
      exact j_sub (lv' := [(0, .ref (eA E d)), (2, .int x2), (3, .int v4)]) [1, 2, 0] rfl h)
  refine j_aload_n C 0 dX0_sendBehind_0 rfl 0 rfl ?_
  refine j_getR C (d + 6) d 1 (shp_dyn hd) rfl rfl in_X0_sendBehind_X0 (by decide) (by decide +kernel) dX0_sendBehind_1 ?_
  refine j_iload_n C 1 dX0_sendBehind_4 rfl 1 rfl ?_
  refine j_iald C (d + 6) (shp_dynL hd) dX0_sendBehind_5 h.1 ?_
  replace h := h.2
  refine j_topi (fun v5 ev5 => ?_)
  replace h := h v5 ev5
  refine j_istore_n (lv' := [(2, .int v5), (0, .ref (eA E d)), (1, .int a1)]) C 2 dX0_sendBehind_6 rfl (by decide) rfl ?_
  refine j_iload_n C 1 dX0_sendBehind_7 rfl 2 rfl ?_
  refine j_iconst (v := (1 : Int32)) C dX0_sendBehind_8 (by decide) ?_
  refine j_iadd C dX0_sendBehind_9 ?_
  refine j_topi (fun v6 ev6 => ?_)
  replace h := h v6 ev6
  refine j_istore_n (lv' := [(3, .int v6), (2, .int v5), (0, .ref (eA E d)), (1, .int a1)]) C 3 dX0_sendBehind_10 rfl (by decide) rfl ?_
  exact j_sub (lv' := [(0, .ref (eA E d)), (2, .int v5), (3, .int v6)]) [2, 1, 0] rfl h
def wp_X0_crown (d : Nat) (a1 : Int32) (σ : Mem) (Q : Mem → Prop) : Prop :=
  ∀ (P26 : Mem → Prop) (P27 : Int32 → Mem → Prop) (P67 : Int32 → Mem → Prop) (P109 : Int32 → Mem → Prop) (P151 : Int32 → Mem → Prop),
  (∀ (σ : Mem), (P27 (0 : Int32) σ) → P26 σ) →
  (∀ (s0 : Int32) (σ : Mem), ((s0 = 0 ∨ s0 = 1) ∧ (∀ σ1 : Mem, σ1 = st1 σ d 10 s0 → ((σ1.1 d 10) = 0 → vp_in (σ1.1 d 8) 6 ∧ (P67 ((((σ1.1 (d + 2 + 1 * ((3 : Int32)).toNatClampNeg) ((σ1.1 d 8)).toNatClampNeg) + (1 : Int32)) / (2 : Int32))) σ1)) ∧ (¬ (σ1.1 d 10) = 0 → vp_in (σ1.1 d 8) 6 ∧ (P67 ((σ1.1 (d + 2 + 1 * ((3 : Int32)).toNatClampNeg) ((σ1.1 d 8)).toNatClampNeg)) σ1)))) → P27 s0 σ) →
  (∀ (s0 : Int32) (σ : Mem), (∀ σ5 : Mem, σ5 = st1 σ d 9 s0 → ∀ σ6 : Mem, σ6 = st1 σ5 d 5 ((σ5.1 d 5) + (1 : Int32)) → ∀ σ7 : Mem, σ7 = st1 σ6 d 6 ((σ6.1 d 6) + (σ6.1 d 9)) → (¬ ((σ7.1 d 5) - (σ7.1 d 5) / (2 : Int32) * (2 : Int32)) = (1 : Int32) → P109 (0 : Int32) σ7) ∧ (((σ7.1 d 5) - (σ7.1 d 5) / (2 : Int32) * (2 : Int32)) = (1 : Int32) → P109 (1 : Int32) σ7)) → P67 s0 σ) →
  (∀ (s0 : Int32) (σ : Mem), ((s0 = 0 ∨ s0 = 1) ∧ (∀ σ9 : Mem, σ9 = st1 σ d 11 s0 → ((σ9.1 d 11) = 0 → P151 ((if (0 : Int32) < ((σ9.1 d 4) - (σ9.1 d 9)) then ((σ9.1 d 4) - (σ9.1 d 9)) else (0 : Int32))) σ9) ∧ (¬ (σ9.1 d 11) = 0 → P151 ((if ((σ9.1 d 4) + (σ9.1 d 9)) < (999 : Int32) then ((σ9.1 d 4) + (σ9.1 d 9)) else (999 : Int32))) σ9))) → P109 s0 σ) →
  (∀ (s0 : Int32) (σ : Mem), (∀ σ11 : Mem, σ11 = st1 σ d 4 s0 → ((σ11.1 d 10) = 0 → ∀ σ13 : Mem, σ13 = st1 σ11 d 7 ((σ11.1 d 7) + (1 : Int32)) → wp_X0_sendBehind d (1 : Int32) σ13 (fun σ14 => vp_in (σ14.1 d 8) 6 ∧ (vp_in (σ14.1 d 8) 6 ∧ (∀ σ17 : Mem, σ17 = st1 σ14 (d + 2 + 1 * ((1 : Int32)).toNatClampNeg) ((σ14.1 d 8)).toNatClampNeg (if (0 : Int32) < ((σ14.1 (d + 2 + 1 * ((1 : Int32)).toNatClampNeg) ((σ14.1 d 8)).toNatClampNeg) - (1 : Int32)) then ((σ14.1 (d + 2 + 1 * ((1 : Int32)).toNatClampNeg) ((σ14.1 d 8)).toNatClampNeg) - (1 : Int32)) else (0 : Int32)) → Q σ17)))) ∧ (¬ (σ11.1 d 10) = 0 → wp_X0_sendBehind d (0 : Int32) σ11 (fun σ18 => wp_X0_sendBehind d (0 : Int32) σ18 (fun σ19 => Q σ19)))) → P151 s0 σ) →
  ∀ σ20 : Mem, σ20 = st1 σ d 8 (σ.1 (d + 6) ((1 : Int32)).toNatClampNeg) → wp_X0_clears d σ20 (fun r22 σ21 => (r22 = 0 → P26 σ21) ∧ (¬ r22 = 0 → (¬ a1 = 0 → P26 σ21) ∧ (a1 = 0 → P27 (1 : Int32) σ21)))
theorem in_X0_crown_X0 : ∀ w ∈ wsX00, w ∈ wsX0_crown := fun _ h => List.mem_cons_of_mem _ (List.mem_append_right _ h)
def rmX0_crown : Room := { frames := 3, cells := 0, slots := 0, locals := 65 }
theorem hdX0_crown : yX0_crown.cls = RX0 ∧ yX0_crown.cls ≠ "java/lang/invoke/MethodHandle" ∧ yX0_crown.cls ≠ "java/lang/invoke/VarHandle" ∧ (parseMethodDescriptor yX0_crown.desc).map (fun d => d.parameters.length) = some 1 := by decide +kernel
set_option maxHeartbeats 4000000 in
set_option maxRecDepth 100000 in
theorem c_X0_crown {l : Launch} {E : EE} {d : Nat} {a1 : Int32} (hd : isDyn d = true) {σ : Mem} {Q : Mem → Prop} (h : wp_X0_crown d a1 σ Q) : CtV l yX0_crown wsX0_crown rmX0_crown E [.ref (eA E d), .int a1] σ Q := by
  refine metV (cc := cX0_crown) (nL := 2) (ret := none) (lv := [(0, .ref (eA E d)), (1, .int a1)]) (by decide) rfl (Nat.le_of_ble_eq_true rfl) rfl ?_
  intro p e s m args below meth c C
  unfold wp_X0_crown at h
  replace h := h (fun (σ : Mem) => J E p l e rmX0_crown s m args below meth c (QV E below args s Q) 2 26 [(0, .ref (eA E d))] [.ref (eA E d)] σ) (fun (s0 : Int32) (σ : Mem) => J E p l e rmX0_crown s m args below meth c (QV E below args s Q) 2 27 [(0, .ref (eA E d))] [.int s0, .ref (eA E d)] σ) (fun (s0 : Int32) (σ : Mem) => J E p l e rmX0_crown s m args below meth c (QV E below args s Q) 2 67 [(0, .ref (eA E d))] [.int s0, .ref (eA E d)] σ) (fun (s0 : Int32) (σ : Mem) => J E p l e rmX0_crown s m args below meth c (QV E below args s Q) 2 109 [(0, .ref (eA E d))] [.int s0, .ref (eA E d)] σ) (fun (s0 : Int32) (σ : Mem) => J E p l e rmX0_crown s m args below meth c (QV E below args s Q) 2 151 [(0, .ref (eA E d))] [.int s0, .ref (eA E d)] σ) (by
    intro σ h
    refine j_iconst (v := (0 : Int32)) C dX0_crown_26 (by decide) ?_
    exact j_sub (lv' := [(0, .ref (eA E d))]) [0] rfl h) (by
    intro s0 σ h
    refine j_put C d 10 (shp_dyn hd) rfl rfl in_X0_crown_X0 tyX0 tyX0_ok nmX0 (by decide) (by decide +kernel) rfl rfl (b_nar h.1) (b_fit h.1) dX0_crown_27 ?_
    replace h := h.2
    refine j_mem (fun σ1 eσ1 => ?_)
    replace h := h σ1 eσ1
    refine j_aload_n C 0 dX0_crown_30 rfl 0 rfl ?_
    refine j_aload_n C 0 dX0_crown_31 rfl 0 rfl ?_
    refine j_getI C d 10 (shp_dyn hd) rfl rfl in_X0_crown_X0 (by decide) (by decide +kernel) dX0_crown_32 ?_
    refine j_if_eq C 52 dX0_crown_35 (by decide) (fun c2 => ?_) (fun c2 => ?_)
    · replace h := h.1 c2
      refine j_aload_n C 0 dX0_crown_52 rfl 0 rfl ?_
      refine j_getR C (d + 1) d 0 (shp_dyn hd) rfl rfl in_X0_crown_X0 (by decide) (by decide +kernel) dX0_crown_53 ?_
      refine j_iconst (v := (3 : Int32)) C dX0_crown_56 (by decide) ?_
      refine j_aald C (d + 1) 5 (shp_dynT hd) rfl rfl dX0_crown_57 (in_lit rfl) ?_
      refine j_aload_n C 0 dX0_crown_58 rfl 0 rfl ?_
      refine j_getI C d 8 (shp_dyn hd) rfl rfl in_X0_crown_X0 (by decide) (by decide +kernel) dX0_crown_59 ?_
      refine j_iald C (d + 2 + 1 * ((3 : Int32)).toNatClampNeg) (shp_dynR hd (in_lit rfl)) dX0_crown_62 h.1 ?_
      replace h := h.2
      refine j_iconst (v := (1 : Int32)) C dX0_crown_63 (by decide) ?_
      refine j_iadd C dX0_crown_64 ?_
      refine j_iconst (v := (2 : Int32)) C dX0_crown_65 (by decide) ?_
      refine j_idiv C dX0_crown_66 (by decide) ?_
      exact j_sub (lv' := [(0, .ref (eA E d))]) [0] rfl h
    · replace h := h.2 c2
      refine j_aload_n C 0 dX0_crown_38 rfl 0 rfl ?_
      refine j_getR C (d + 1) d 0 (shp_dyn hd) rfl rfl in_X0_crown_X0 (by decide) (by decide +kernel) dX0_crown_39 ?_
      refine j_iconst (v := (3 : Int32)) C dX0_crown_42 (by decide) ?_
      refine j_aald C (d + 1) 5 (shp_dynT hd) rfl rfl dX0_crown_43 (in_lit rfl) ?_
      refine j_aload_n C 0 dX0_crown_44 rfl 0 rfl ?_
      refine j_getI C d 8 (shp_dyn hd) rfl rfl in_X0_crown_X0 (by decide) (by decide +kernel) dX0_crown_45 ?_
      refine j_iald C (d + 2 + 1 * ((3 : Int32)).toNatClampNeg) (shp_dynR hd (in_lit rfl)) dX0_crown_48 h.1 ?_
      replace h := h.2
      refine j_goto C 67 dX0_crown_49 (by decide) ?_
      exact j_sub (lv' := [(0, .ref (eA E d))]) [0] rfl h) (by
    intro s0 σ h
    refine j_put C d 9 (shp_dyn hd) rfl rfl in_X0_crown_X0 tyX0 tyX0_ok nmX0 (by decide) (by decide +kernel) rfl rfl rfl rfl dX0_crown_67 ?_
    refine j_mem (fun σ5 eσ5 => ?_)
    replace h := h σ5 eσ5
    refine j_aload_n C 0 dX0_crown_70 rfl 0 rfl ?_
    refine j_dup C dX0_crown_71 rfl ?_
    refine j_getI C d 5 (shp_dyn hd) rfl rfl in_X0_crown_X0 (by decide) (by decide +kernel) dX0_crown_72 ?_
    refine j_iconst (v := (1 : Int32)) C dX0_crown_75 (by decide) ?_
    refine j_iadd C dX0_crown_76 ?_
    refine j_put C d 5 (shp_dyn hd) rfl rfl in_X0_crown_X0 tyX0 tyX0_ok nmX0 (by decide) (by decide +kernel) rfl rfl rfl rfl dX0_crown_77 ?_
    refine j_mem (fun σ6 eσ6 => ?_)
    replace h := h σ6 eσ6
    refine j_aload_n C 0 dX0_crown_80 rfl 0 rfl ?_
    refine j_dup C dX0_crown_81 rfl ?_
    refine j_getI C d 6 (shp_dyn hd) rfl rfl in_X0_crown_X0 (by decide) (by decide +kernel) dX0_crown_82 ?_
    refine j_aload_n C 0 dX0_crown_85 rfl 0 rfl ?_
    refine j_getI C d 9 (shp_dyn hd) rfl rfl in_X0_crown_X0 (by decide) (by decide +kernel) dX0_crown_86 ?_
    refine j_iadd C dX0_crown_89 ?_
    refine j_put C d 6 (shp_dyn hd) rfl rfl in_X0_crown_X0 tyX0 tyX0_ok nmX0 (by decide) (by decide +kernel) rfl rfl rfl rfl dX0_crown_90 ?_
    refine j_mem (fun σ7 eσ7 => ?_)
    replace h := h σ7 eσ7
    refine j_aload_n C 0 dX0_crown_93 rfl 0 rfl ?_
    refine j_aload_n C 0 dX0_crown_94 rfl 0 rfl ?_
    refine j_getI C d 5 (shp_dyn hd) rfl rfl in_X0_crown_X0 (by decide) (by decide +kernel) dX0_crown_95 ?_
    refine j_iconst (v := (2 : Int32)) C dX0_crown_98 (by decide) ?_
    refine j_irem C dX0_crown_99 (by decide) ?_
    refine j_iconst (v := (1 : Int32)) C dX0_crown_100 (by decide) ?_
    refine j_icmp_ne C 108 dX0_crown_101 (by decide) (fun c8 => ?_) (fun c8 => ?_)
    · replace h := h.1 c8
      refine j_iconst (v := (0 : Int32)) C dX0_crown_108 (by decide) ?_
      exact j_sub (lv' := [(0, .ref (eA E d))]) [0] rfl h
    · replace h := h.2 c8
      refine j_iconst (v := (1 : Int32)) C dX0_crown_104 (by decide) ?_
      refine j_goto C 109 dX0_crown_105 (by decide) ?_
      exact j_sub (lv' := [(0, .ref (eA E d))]) [0] rfl h) (by
    intro s0 σ h
    refine j_put C d 11 (shp_dyn hd) rfl rfl in_X0_crown_X0 tyX0 tyX0_ok nmX0 (by decide) (by decide +kernel) rfl rfl (b_nar h.1) (b_fit h.1) dX0_crown_109 ?_
    replace h := h.2
    refine j_mem (fun σ9 eσ9 => ?_)
    replace h := h σ9 eσ9
    refine j_aload_n C 0 dX0_crown_112 rfl 0 rfl ?_
    refine j_aload_n C 0 dX0_crown_113 rfl 0 rfl ?_
    refine j_getI C d 11 (shp_dyn hd) rfl rfl in_X0_crown_X0 (by decide) (by decide +kernel) dX0_crown_114 ?_
    refine j_if_eq C 138 dX0_crown_117 (by decide) (fun c10 => ?_) (fun c10 => ?_)
    · replace h := h.1 c10
      refine j_iconst (v := (0 : Int32)) C dX0_crown_138 (by decide) ?_
      refine j_aload_n C 0 dX0_crown_139 rfl 0 rfl ?_
      refine j_getI C d 4 (shp_dyn hd) rfl rfl in_X0_crown_X0 (by decide) (by decide +kernel) dX0_crown_140 ?_
      refine j_aload_n C 0 dX0_crown_143 rfl 0 rfl ?_
      refine j_getI C d 9 (shp_dyn hd) rfl rfl in_X0_crown_X0 (by decide) (by decide +kernel) dX0_crown_144 ?_
      refine j_isub C dX0_crown_147 ?_
      refine j_mmax C (by decide +kernel) (by decide +kernel) (by decide +kernel) (by decide +kernel) (Nat.le_of_ble_eq_true rfl) (Nat.le_of_ble_eq_true rfl) dX0_crown_148 ?_
      exact j_sub (lv' := [(0, .ref (eA E d))]) [0] rfl h
    · replace h := h.2 c10
      refine j_sipush (v := (999 : Int32)) C dX0_crown_120 (by decide) ?_
      refine j_aload_n C 0 dX0_crown_123 rfl 0 rfl ?_
      refine j_getI C d 4 (shp_dyn hd) rfl rfl in_X0_crown_X0 (by decide) (by decide +kernel) dX0_crown_124 ?_
      refine j_aload_n C 0 dX0_crown_127 rfl 0 rfl ?_
      refine j_getI C d 9 (shp_dyn hd) rfl rfl in_X0_crown_X0 (by decide) (by decide +kernel) dX0_crown_128 ?_
      refine j_iadd C dX0_crown_131 ?_
      refine j_mmin C (by decide +kernel) (by decide +kernel) (by decide +kernel) (by decide +kernel) (Nat.le_of_ble_eq_true rfl) (Nat.le_of_ble_eq_true rfl) dX0_crown_132 ?_
      refine j_goto C 151 dX0_crown_135 (by decide) ?_
      exact j_sub (lv' := [(0, .ref (eA E d))]) [0] rfl h) (by
    intro s0 σ h
    refine j_put C d 4 (shp_dyn hd) rfl rfl in_X0_crown_X0 tyX0 tyX0_ok nmX0 (by decide) (by decide +kernel) rfl rfl rfl rfl dX0_crown_151 ?_
    refine j_mem (fun σ11 eσ11 => ?_)
    replace h := h σ11 eσ11
    refine j_aload_n C 0 dX0_crown_154 rfl 0 rfl ?_
    refine j_getI C d 10 (shp_dyn hd) rfl rfl in_X0_crown_X0 (by decide) (by decide +kernel) dX0_crown_155 ?_
    refine j_if_eq C 174 dX0_crown_158 (by decide) (fun c12 => ?_) (fun c12 => ?_)
    · replace h := h.1 c12
      refine j_aload_n C 0 dX0_crown_174 rfl 0 rfl ?_
      refine j_dup C dX0_crown_175 rfl ?_
      refine j_getI C d 7 (shp_dyn hd) rfl rfl in_X0_crown_X0 (by decide) (by decide +kernel) dX0_crown_176 ?_
      refine j_iconst (v := (1 : Int32)) C dX0_crown_179 (by decide) ?_
      refine j_iadd C dX0_crown_180 ?_
      refine j_put C d 7 (shp_dyn hd) rfl rfl in_X0_crown_X0 tyX0 tyX0_ok nmX0 (by decide) (by decide +kernel) rfl rfl rfl rfl dX0_crown_181 ?_
      refine j_mem (fun σ13 eσ13 => ?_)
      replace h := h σ13 eσ13
      refine j_aload_n C 0 dX0_crown_184 rfl 0 rfl ?_
      refine j_iconst (v := (1 : Int32)) C dX0_crown_185 (by decide) ?_
      refine j_callVV (As := [.int (1 : Int32)]) (rest := []) C d (c_X0_sendBehind hd h) (cwV 1 C.2.2.2.2.2.1 gX0_crown_X0_sendBehind rfl rfl rfl hdX0_sendBehind ⟨Nat.le_of_ble_eq_true rfl, Nat.le_of_ble_eq_true rfl⟩) (shp_dyn hd) rfl rfl rfl (Nat.le_of_ble_eq_true rfl) dX0_crown_186 (fun σ14 h => ?_)
      refine j_aload_n C 0 dX0_crown_189 rfl 0 rfl ?_
      refine j_getR C (d + 1) d 0 (shp_dyn hd) rfl rfl in_X0_crown_X0 (by decide) (by decide +kernel) dX0_crown_190 ?_
      refine j_iconst (v := (1 : Int32)) C dX0_crown_193 (by decide) ?_
      refine j_aald C (d + 1) 5 (shp_dynT hd) rfl rfl dX0_crown_194 (in_lit rfl) ?_
      refine j_aload_n C 0 dX0_crown_195 rfl 0 rfl ?_
      refine j_getI C d 8 (shp_dyn hd) rfl rfl in_X0_crown_X0 (by decide) (by decide +kernel) dX0_crown_196 ?_
      refine j_iconst (v := (0 : Int32)) C dX0_crown_199 (by decide) ?_
      refine j_aload_n C 0 dX0_crown_200 rfl 0 rfl ?_
      refine j_getR C (d + 1) d 0 (shp_dyn hd) rfl rfl in_X0_crown_X0 (by decide) (by decide +kernel) dX0_crown_201 ?_
      refine j_iconst (v := (1 : Int32)) C dX0_crown_204 (by decide) ?_
      refine j_aald C (d + 1) 5 (shp_dynT hd) rfl rfl dX0_crown_205 (in_lit rfl) ?_
      refine j_aload_n C 0 dX0_crown_206 rfl 0 rfl ?_
      refine j_getI C d 8 (shp_dyn hd) rfl rfl in_X0_crown_X0 (by decide) (by decide +kernel) dX0_crown_207 ?_
      refine j_iald C (d + 2 + 1 * ((1 : Int32)).toNatClampNeg) (shp_dynR hd (in_lit rfl)) dX0_crown_210 h.1 ?_
      replace h := h.2
      refine j_iconst (v := (1 : Int32)) C dX0_crown_211 (by decide) ?_
      refine j_isub C dX0_crown_212 ?_
      refine j_mmax C (by decide +kernel) (by decide +kernel) (by decide +kernel) (by decide +kernel) (Nat.le_of_ble_eq_true rfl) (Nat.le_of_ble_eq_true rfl) dX0_crown_213 ?_
      refine j_iast C (d + 2 + 1 * ((1 : Int32)).toNatClampNeg) (shp_dynR hd (in_lit rfl)) dX0_crown_216 h.1 ?_
      replace h := h.2
      refine j_mem (fun σ17 eσ17 => ?_)
      replace h := h σ17 eσ17
      exact j_vret C dX0_crown_217 h
    · replace h := h.2 c12
      refine j_aload_n C 0 dX0_crown_161 rfl 0 rfl ?_
      refine j_iconst (v := (0 : Int32)) C dX0_crown_162 (by decide) ?_
      refine j_callVV (As := [.int (0 : Int32)]) (rest := []) C d (c_X0_sendBehind hd h) (cwV 1 C.2.2.2.2.2.1 gX0_crown_X0_sendBehind rfl rfl rfl hdX0_sendBehind ⟨Nat.le_of_ble_eq_true rfl, Nat.le_of_ble_eq_true rfl⟩) (shp_dyn hd) rfl rfl rfl (Nat.le_of_ble_eq_true rfl) dX0_crown_163 (fun σ18 h => ?_)
      refine j_aload_n C 0 dX0_crown_166 rfl 0 rfl ?_
      refine j_iconst (v := (0 : Int32)) C dX0_crown_167 (by decide) ?_
      refine j_callVV (As := [.int (0 : Int32)]) (rest := []) C d (c_X0_sendBehind hd h) (cwV 1 C.2.2.2.2.2.1 gX0_crown_X0_sendBehind rfl rfl rfl hdX0_sendBehind ⟨Nat.le_of_ble_eq_true rfl, Nat.le_of_ble_eq_true rfl⟩) (shp_dyn hd) rfl rfl rfl (Nat.le_of_ble_eq_true rfl) dX0_crown_168 (fun σ19 h => ?_)
      refine j_goto C 217 dX0_crown_171 (by decide) ?_
      exact j_vret C dX0_crown_217 h)
  refine j_aload_n C 0 dX0_crown_0 rfl 0 rfl ?_
  refine j_aload_n C 0 dX0_crown_1 rfl 0 rfl ?_
  refine j_getR C (d + 6) d 1 (shp_dyn hd) rfl rfl in_X0_crown_X0 (by decide) (by decide +kernel) dX0_crown_2 ?_
  refine j_iconst (v := (1 : Int32)) C dX0_crown_5 (by decide) ?_
  refine j_iald C (d + 6) (shp_dynL hd) dX0_crown_6 (in_lit rfl) ?_
  refine j_put C d 8 (shp_dyn hd) rfl rfl in_X0_crown_X0 tyX0 tyX0_ok nmX0 (by decide) (by decide +kernel) rfl rfl rfl rfl dX0_crown_7 ?_
  refine j_mem (fun σ20 eσ20 => ?_)
  replace h := h σ20 eσ20
  refine j_aload_n C 0 dX0_crown_10 rfl 0 rfl ?_
  refine j_aload_n C 0 dX0_crown_11 rfl 0 rfl ?_
  refine j_callVI (As := []) (rest := [.ref (eA E d)]) C d (c_X0_clears hd h) (cwV 0 C.2.2.2.2.2.1 gX0_crown_X0_clears rfl rfl rfl hdX0_clears ⟨Nat.le_of_ble_eq_true rfl, Nat.le_of_ble_eq_true rfl⟩) (shp_dyn hd) rfl rfl rfl (Nat.le_of_ble_eq_true rfl) dX0_crown_12 (fun r22 σ21 h => ?_)
  refine j_if_eq C 26 dX0_crown_15 (by decide) (fun c23 => ?_) (fun c23 => ?_)
  · replace h := h.1 c23
    exact j_sub (lv' := [(0, .ref (eA E d))]) [0] rfl h
  · replace h := h.2 c23
    refine j_iload_n C 1 dX0_crown_18 rfl 1 rfl ?_
    refine j_if_ne C 26 dX0_crown_19 (by decide) (fun c24 => ?_) (fun c24 => ?_)
    · replace h := h.1 c24
      exact j_sub (lv' := [(0, .ref (eA E d))]) [0] rfl h
    · replace h := h.2 c24
      refine j_iconst (v := (1 : Int32)) C dX0_crown_22 (by decide) ?_
      refine j_goto C 27 dX0_crown_23 (by decide) ?_
      exact j_sub (lv' := [(0, .ref (eA E d))]) [0] rfl h
def wp_X0_pass (d : Nat) (a1 : Int32) (σ : Mem) (Q : Mem → Prop) : Prop :=
  ∀ (P2 : Int32 → Mem → Prop),
  (∀ (x2 : Int32) (σ : Mem), ((a1 ≤ x2 → Q σ) ∧ (¬ a1 ≤ x2 → wp_X0_crown d (0 : Int32) σ (fun σ2 => ∀ v3 : Int32, v3 = x2 + (1 : Int32) → P2 v3 σ2))) → P2 x2 σ) →
  P2 (0 : Int32) σ
def rmX0_pass : Room := { frames := 4, cells := 0, slots := 0, locals := 86 }
theorem hdX0_pass : yX0_pass.cls = RX0 ∧ yX0_pass.cls ≠ "java/lang/invoke/MethodHandle" ∧ yX0_pass.cls ≠ "java/lang/invoke/VarHandle" ∧ (parseMethodDescriptor yX0_pass.desc).map (fun d => d.parameters.length) = some 1 := by decide +kernel
set_option maxHeartbeats 4000000 in
set_option maxRecDepth 100000 in
theorem c_X0_pass {l : Launch} {E : EE} {d : Nat} {a1 : Int32} (hd : isDyn d = true) {σ : Mem} {Q : Mem → Prop} (h : wp_X0_pass d a1 σ Q) : CtV l yX0_pass wsX0_pass rmX0_pass E [.ref (eA E d), .int a1] σ Q := by
  refine metV (cc := cX0_pass) (nL := 3) (ret := none) (lv := [(0, .ref (eA E d)), (1, .int a1)]) (by decide) rfl (Nat.le_of_ble_eq_true rfl) rfl ?_
  intro p e s m args below meth c C
  unfold wp_X0_pass at h
  replace h := h (fun (x2 : Int32) (σ : Mem) => J E p l e rmX0_pass s m args below meth c (QV E below args s Q) 3 2 [(0, .ref (eA E d)), (1, .int a1), (2, .int x2)] [] σ) (by
    intro x2 σ h
    refine j_iload_n C 2 dX0_pass_2 rfl 2 rfl ?_
    refine j_iload_n C 1 dX0_pass_3 rfl 1 rfl ?_
    refine j_icmp_ge C 18 dX0_pass_4 (by decide) (fun c1 => ?_) (fun c1 => ?_)
    · replace h := h.1 c1
      exact j_vret C dX0_pass_18 h
    · replace h := h.2 c1
      refine j_aload_n C 0 dX0_pass_7 rfl 0 rfl ?_
      refine j_iconst (v := (0 : Int32)) C dX0_pass_8 (by decide) ?_
      refine j_callVV (As := [.int (0 : Int32)]) (rest := []) C d (c_X0_crown hd h) (cwV 1 C.2.2.2.2.2.1 gX0_pass_X0_crown rfl rfl rfl hdX0_crown ⟨Nat.le_of_ble_eq_true rfl, Nat.le_of_ble_eq_true rfl⟩) (shp_dyn hd) rfl rfl rfl (Nat.le_of_ble_eq_true rfl) dX0_pass_9 (fun σ2 h => ?_)
      obtain ⟨v3, ev3⟩ : ∃ y : Int32, y = x2 + (1 : Int32) := ⟨_, rfl⟩
      replace h := h v3 ev3
      refine j_iinc (v := v3) (lv' := [(2, .int v3), (0, .ref (eA E d)), (1, .int a1)]) C 2 dX0_pass_12 2 rfl (by rw [ev3]; rfl) (by decide) rfl ?_
      refine j_goto C 2 dX0_pass_15 (by decide) ?_
      exact j_sub (lv' := [(0, .ref (eA E d)), (1, .int a1), (2, .int v3)]) [1, 2, 0] rfl h)
  refine j_iconst (v := (0 : Int32)) C dX0_pass_0 (by decide) ?_
  refine j_istore_n (lv' := [(2, .int (0 : Int32)), (0, .ref (eA E d)), (1, .int a1)]) C 2 dX0_pass_1 rfl (by decide) rfl ?_
  exact j_sub (lv' := [(0, .ref (eA E d)), (1, .int a1), (2, .int (0 : Int32))]) [1, 2, 0] rfl h
def wp_X0_worksBehind (d : Nat) (a1 : Int32) (σ : Mem) (Q : Int32 → Mem → Prop) : Prop :=
  wp_X0_pass d a1 σ (fun σ1 => Q (σ1.1 d 4) σ1)
theorem in_X0_worksBehind_X0 : ∀ w ∈ wsX00, w ∈ wsX0_worksBehind := fun _ h => List.mem_cons_of_mem _ (List.mem_append_right _ h)
def rmX0_worksBehind : Room := { frames := 5, cells := 0, slots := 0, locals := 108 }
theorem hdX0_worksBehind : yX0_worksBehind.cls = RX0 ∧ yX0_worksBehind.cls ≠ "java/lang/invoke/MethodHandle" ∧ yX0_worksBehind.cls ≠ "java/lang/invoke/VarHandle" ∧ (parseMethodDescriptor yX0_worksBehind.desc).map (fun d => d.parameters.length) = some 1 := by decide +kernel
set_option maxHeartbeats 4000000 in
set_option maxRecDepth 100000 in
theorem c_X0_worksBehind {l : Launch} {E : EE} {d : Nat} {a1 : Int32} (hd : isDyn d = true) {σ : Mem} {Q : Int32 → Mem → Prop} (h : wp_X0_worksBehind d a1 σ Q) : CtI l yX0_worksBehind wsX0_worksBehind rmX0_worksBehind E [.ref (eA E d), .int a1] σ Q := by
  refine metI (cc := cX0_worksBehind) (nL := 2) (ret := (some .int)) (lv := [(0, .ref (eA E d)), (1, .int a1)]) (by decide) rfl (Nat.le_of_ble_eq_true rfl) rfl ?_
  intro p e s m args below meth c C
  unfold wp_X0_worksBehind at h
  refine j_aload_n C 0 dX0_worksBehind_0 rfl 0 rfl ?_
  refine j_iload_n C 1 dX0_worksBehind_1 rfl 1 rfl ?_
  refine j_callVV (As := [.int a1]) (rest := []) C d (c_X0_pass hd h) (cwV 1 C.2.2.2.2.2.1 gX0_worksBehind_X0_pass rfl rfl rfl hdX0_pass ⟨Nat.le_of_ble_eq_true rfl, Nat.le_of_ble_eq_true rfl⟩) (shp_dyn hd) rfl rfl rfl (Nat.le_of_ble_eq_true rfl) dX0_worksBehind_2 (fun σ1 h => ?_)
  refine j_aload_n C 0 dX0_worksBehind_5 rfl 0 rfl ?_
  refine j_getI C d 4 (shp_dyn hd) rfl rfl in_X0_worksBehind_X0 (by decide) (by decide +kernel) dX0_worksBehind_6 ?_
  exact j_iret C dX0_worksBehind_9 h
def wp_X0_standsAs (d : Nat) (o : Nat) (σ : Mem) (Q : Int32 → Mem → Prop) : Prop :=
  ∀ (P2 : Int32 → Mem → Prop),
  (∀ (x2 : Int32) (σ : Mem), (((σ.1 d 2) ≤ x2 → Q (1 : Int32) σ) ∧ (¬ (σ.1 d 2) ≤ x2 → vp_in x2 6 ∧ (vp_in x2 6 ∧ (((σ.1 (d + 6) (x2).toNatClampNeg) = (σ.1 (o + 6) (x2).toNatClampNeg) → ∀ v3 : Int32, v3 = x2 + (1 : Int32) → P2 v3 σ) ∧ (¬ (σ.1 (d + 6) (x2).toNatClampNeg) = (σ.1 (o + 6) (x2).toNatClampNeg) → Q (0 : Int32) σ))))) → P2 x2 σ) →
  P2 (0 : Int32) σ
theorem in_X0_standsAs_X0 : ∀ w ∈ wsX00, w ∈ wsX0_standsAs := fun _ h => List.mem_cons_of_mem _ (List.mem_append_right _ h)
def rmX0_standsAs : Room := { frames := 0, cells := 0, slots := 0, locals := 0 }
theorem hdX0_standsAs : yX0_standsAs.cls = RX0 ∧ yX0_standsAs.cls ≠ "java/lang/invoke/MethodHandle" ∧ yX0_standsAs.cls ≠ "java/lang/invoke/VarHandle" ∧ (parseMethodDescriptor yX0_standsAs.desc).map (fun d => d.parameters.length) = some 1 := by decide +kernel
set_option maxHeartbeats 4000000 in
set_option maxRecDepth 100000 in
theorem c_X0_standsAs {l : Launch} {E : EE} {d : Nat} {o : Nat} (hd : isDyn d = true) (ho : isDyn o = true) {σ : Mem} {Q : Int32 → Mem → Prop} (h : wp_X0_standsAs d o σ Q) : CtI l yX0_standsAs wsX0_standsAs rmX0_standsAs E [.ref (eA E d), .ref (eA E o)] σ Q := by
  refine metI (cc := cX0_standsAs) (nL := 3) (ret := (some .boolean)) (lv := [(0, .ref (eA E d)), (1, .ref (eA E o))]) (by decide) rfl (Nat.le_of_ble_eq_true rfl) rfl ?_
  intro p e s m args below meth c C
  unfold wp_X0_standsAs at h
  replace h := h (fun (x2 : Int32) (σ : Mem) => J E p l e rmX0_standsAs s m args below meth c (QI E below args s Q) 3 2 [(0, .ref (eA E d)), (1, .ref (eA E o)), (2, .int x2)] [] σ) (by
    intro x2 σ h
    refine j_iload_n C 2 dX0_standsAs_2 rfl 2 rfl ?_
    refine j_aload_n C 0 dX0_standsAs_3 rfl 0 rfl ?_
    refine j_getI C d 2 (shp_dyn hd) rfl rfl in_X0_standsAs_X0 (by decide) (by decide +kernel) dX0_standsAs_4 ?_
    refine j_icmp_ge C 33 dX0_standsAs_7 (by decide) (fun c1 => ?_) (fun c1 => ?_)
    · replace h := h.1 c1
      refine j_iconst (v := (1 : Int32)) C dX0_standsAs_33 (by decide) ?_
      exact j_zret C dX0_standsAs_34 (Or.inr rfl) h
    · replace h := h.2 c1
      refine j_aload_n C 0 dX0_standsAs_10 rfl 0 rfl ?_
      refine j_getR C (d + 6) d 1 (shp_dyn hd) rfl rfl in_X0_standsAs_X0 (by decide) (by decide +kernel) dX0_standsAs_11 ?_
      refine j_iload_n C 2 dX0_standsAs_14 rfl 2 rfl ?_
      refine j_iald C (d + 6) (shp_dynL hd) dX0_standsAs_15 h.1 ?_
      replace h := h.2
      refine j_aload_n C 1 dX0_standsAs_16 rfl 1 rfl ?_
      refine j_getR C (o + 6) o 1 (shp_dyn ho) rfl rfl in_X0_standsAs_X0 (by decide) (by decide +kernel) dX0_standsAs_17 ?_
      refine j_iload_n C 2 dX0_standsAs_20 rfl 2 rfl ?_
      refine j_iald C (o + 6) (shp_dynL ho) dX0_standsAs_21 h.1 ?_
      replace h := h.2
      refine j_icmp_eq C 27 dX0_standsAs_22 (by decide) (fun c2 => ?_) (fun c2 => ?_)
      · replace h := h.1 c2
        obtain ⟨v3, ev3⟩ : ∃ y : Int32, y = x2 + (1 : Int32) := ⟨_, rfl⟩
        replace h := h v3 ev3
        refine j_iinc (v := v3) (lv' := [(2, .int v3), (0, .ref (eA E d)), (1, .ref (eA E o))]) C 2 dX0_standsAs_27 2 rfl (by rw [ev3]; rfl) (by decide) rfl ?_
        refine j_goto C 2 dX0_standsAs_30 (by decide) ?_
        exact j_sub (lv' := [(0, .ref (eA E d)), (1, .ref (eA E o)), (2, .int v3)]) [1, 2, 0] rfl h
      · replace h := h.2 c2
        refine j_iconst (v := (0 : Int32)) C dX0_standsAs_25 (by decide) ?_
        exact j_zret C dX0_standsAs_26 (Or.inl rfl) h)
  refine j_iconst (v := (0 : Int32)) C dX0_standsAs_0 (by decide) ?_
  refine j_istore_n (lv' := [(2, .int (0 : Int32)), (0, .ref (eA E d)), (1, .ref (eA E o))]) C 2 dX0_standsAs_1 rfl (by decide) rfl ?_
  exact j_sub (lv' := [(0, .ref (eA E d)), (1, .ref (eA E o)), (2, .int (0 : Int32))]) [1, 2, 0] rfl h
def wp_X0_fallsIn (d : Nat) (a1 : Int32) (σ : Mem) (Q : Int32 → Mem → Prop) : Prop :=
  ∀ v1 : Int32, v1 = (σ.1 d 7) → wp_X0_pass d a1 σ (fun σ2 => Q ((σ2.1 d 7) - v1) σ2)
theorem in_X0_fallsIn_X0 : ∀ w ∈ wsX00, w ∈ wsX0_fallsIn := fun _ h => List.mem_cons_of_mem _ (List.mem_append_right _ h)
def rmX0_fallsIn : Room := { frames := 5, cells := 0, slots := 0, locals := 108 }
theorem hdX0_fallsIn : yX0_fallsIn.cls = RX0 ∧ yX0_fallsIn.cls ≠ "java/lang/invoke/MethodHandle" ∧ yX0_fallsIn.cls ≠ "java/lang/invoke/VarHandle" ∧ (parseMethodDescriptor yX0_fallsIn.desc).map (fun d => d.parameters.length) = some 1 := by decide +kernel
set_option maxHeartbeats 4000000 in
set_option maxRecDepth 100000 in
theorem c_X0_fallsIn {l : Launch} {E : EE} {d : Nat} {a1 : Int32} (hd : isDyn d = true) {σ : Mem} {Q : Int32 → Mem → Prop} (h : wp_X0_fallsIn d a1 σ Q) : CtI l yX0_fallsIn wsX0_fallsIn rmX0_fallsIn E [.ref (eA E d), .int a1] σ Q := by
  refine metI (cc := cX0_fallsIn) (nL := 3) (ret := (some .int)) (lv := [(0, .ref (eA E d)), (1, .int a1)]) (by decide) rfl (Nat.le_of_ble_eq_true rfl) rfl ?_
  intro p e s m args below meth c C
  unfold wp_X0_fallsIn at h
  refine j_aload_n C 0 dX0_fallsIn_0 rfl 0 rfl ?_
  refine j_getI C d 7 (shp_dyn hd) rfl rfl in_X0_fallsIn_X0 (by decide) (by decide +kernel) dX0_fallsIn_1 ?_
  refine j_topi (fun v1 ev1 => ?_)
  replace h := h v1 ev1
  refine j_istore_n (lv' := [(2, .int v1), (0, .ref (eA E d)), (1, .int a1)]) C 2 dX0_fallsIn_4 rfl (by decide) rfl ?_
  refine j_aload_n C 0 dX0_fallsIn_5 rfl 1 rfl ?_
  refine j_iload_n C 1 dX0_fallsIn_6 rfl 2 rfl ?_
  refine j_callVV (As := [.int a1]) (rest := []) C d (c_X0_pass hd h) (cwV 1 C.2.2.2.2.2.1 gX0_fallsIn_X0_pass rfl rfl rfl hdX0_pass ⟨Nat.le_of_ble_eq_true rfl, Nat.le_of_ble_eq_true rfl⟩) (shp_dyn hd) rfl rfl rfl (Nat.le_of_ble_eq_true rfl) dX0_fallsIn_7 (fun σ2 h => ?_)
  refine j_aload_n C 0 dX0_fallsIn_10 rfl 1 rfl ?_
  refine j_getI C d 7 (shp_dyn hd) rfl rfl in_X0_fallsIn_X0 (by decide) (by decide +kernel) dX0_fallsIn_11 ?_
  refine j_iload_n C 2 dX0_fallsIn_14 rfl 0 rfl ?_
  refine j_isub C dX0_fallsIn_15 ?_
  exact j_iret C dX0_fallsIn_16 h
def wp_X3_add (d : Nat) (a1 : Int32) (a2 : Int32) (σ : Mem) (Q : Int32 → Mem → Prop) : Prop :=
  ((σ.1 d 2) < (6 : Int32) → vp_in (σ.1 d 2) 6 ∧ (∀ σ2 : Mem, σ2 = st1 σ (d + 1) ((σ.1 d 2)).toNatClampNeg a1 → vp_in (σ2.1 d 2) 6 ∧ (∀ σ3 : Mem, σ3 = st1 σ2 (d + 2) ((σ2.1 d 2)).toNatClampNeg a2 → ∀ σ4 : Mem, σ4 = st1 σ3 d 2 ((σ3.1 d 2) + (1 : Int32)) → Q (1 : Int32) σ4))) ∧ (¬ (σ.1 d 2) < (6 : Int32) → Q (0 : Int32) σ)
theorem in_X3_add_X3 : ∀ w ∈ wsX30, w ∈ wsX3_add := fun _ h => List.mem_cons_of_mem _ (List.mem_append_right _ h)
def rmX3_add : Room := { frames := 0, cells := 0, slots := 0, locals := 0 }
theorem hdX3_add : yX3_add.cls = RX3 ∧ yX3_add.cls ≠ "java/lang/invoke/MethodHandle" ∧ yX3_add.cls ≠ "java/lang/invoke/VarHandle" ∧ (parseMethodDescriptor yX3_add.desc).map (fun d => d.parameters.length) = some 2 := by decide +kernel
set_option maxHeartbeats 4000000 in
set_option maxRecDepth 100000 in
theorem c_X3_add {l : Launch} {E : EE} {d : Nat} {a1 : Int32} {a2 : Int32} (hd : isSig d = true) {σ : Mem} {Q : Int32 → Mem → Prop} (h : wp_X3_add d a1 a2 σ Q) : CtI l yX3_add wsX3_add rmX3_add E [.ref (eA E d), .int a1, .int a2] σ Q := by
  refine metI (cc := cX3_add) (nL := 3) (ret := (some .boolean)) (lv := [(0, .ref (eA E d)), (1, .int a1), (2, .int a2)]) (by decide) rfl (Nat.le_of_ble_eq_true rfl) rfl ?_
  intro p e s m args below meth c C
  unfold wp_X3_add at h
  refine j_aload_n C 0 dX3_add_0 rfl 0 rfl ?_
  refine j_getI C d 2 (shp_sig hd) rfl rfl in_X3_add_X3 (by decide) (by decide +kernel) dX3_add_1 ?_
  refine j_bipush (v := (6 : Int32)) C dX3_add_4 (by decide) ?_
  refine j_icmp_lt C 11 dX3_add_6 (by decide) (fun c1 => ?_) (fun c1 => ?_)
  · replace h := h.1 c1
    refine j_aload_n C 0 dX3_add_11 rfl 0 rfl ?_
    refine j_getR C (d + 1) d 0 (shp_sig hd) rfl rfl in_X3_add_X3 (by decide) (by decide +kernel) dX3_add_12 ?_
    refine j_aload_n C 0 dX3_add_15 rfl 0 rfl ?_
    refine j_getI C d 2 (shp_sig hd) rfl rfl in_X3_add_X3 (by decide) (by decide +kernel) dX3_add_16 ?_
    refine j_iload_n C 1 dX3_add_19 rfl 1 rfl ?_
    refine j_iast C (d + 1) (shp_sig1 hd) dX3_add_20 h.1 ?_
    replace h := h.2
    refine j_mem (fun σ2 eσ2 => ?_)
    replace h := h σ2 eσ2
    refine j_aload_n C 0 dX3_add_21 rfl 0 rfl ?_
    refine j_getR C (d + 2) d 1 (shp_sig hd) rfl rfl in_X3_add_X3 (by decide) (by decide +kernel) dX3_add_22 ?_
    refine j_aload_n C 0 dX3_add_25 rfl 0 rfl ?_
    refine j_getI C d 2 (shp_sig hd) rfl rfl in_X3_add_X3 (by decide) (by decide +kernel) dX3_add_26 ?_
    refine j_iload_n C 2 dX3_add_29 rfl 2 rfl ?_
    refine j_iast C (d + 2) (shp_sig2 hd) dX3_add_30 h.1 ?_
    replace h := h.2
    refine j_mem (fun σ3 eσ3 => ?_)
    replace h := h σ3 eσ3
    refine j_aload_n C 0 dX3_add_31 rfl 0 rfl ?_
    refine j_dup C dX3_add_32 rfl ?_
    refine j_getI C d 2 (shp_sig hd) rfl rfl in_X3_add_X3 (by decide) (by decide +kernel) dX3_add_33 ?_
    refine j_iconst (v := (1 : Int32)) C dX3_add_36 (by decide) ?_
    refine j_iadd C dX3_add_37 ?_
    refine j_put C d 2 (shp_sig hd) rfl rfl in_X3_add_X3 tyX3 tyX3_ok nmX3 (by decide) (by decide +kernel) rfl rfl rfl rfl dX3_add_38 ?_
    refine j_mem (fun σ4 eσ4 => ?_)
    replace h := h σ4 eσ4
    refine j_iconst (v := (1 : Int32)) C dX3_add_41 (by decide) ?_
    exact j_zret C dX3_add_42 (Or.inr rfl) h
  · replace h := h.2 c1
    refine j_iconst (v := (0 : Int32)) C dX3_add_9 (by decide) ?_
    exact j_zret C dX3_add_10 (Or.inl rfl) h
def wp_X3_fits (d : Nat) (σ : Mem) (Q : Int32 → Mem → Prop) : Prop :=
  ∀ (P2 : Int32 → Mem → Prop),
  (∀ (x2 : Int32) (σ : Mem), (((σ.1 d 2) ≤ x2 → Q (1 : Int32) σ) ∧ (¬ (σ.1 d 2) ≤ x2 → vp_in x2 6 ∧ (vp_in ((σ.1 (d + 1) (x2).toNatClampNeg) - (1 : Int32)) 20 ∧ (vp_in x2 6 ∧ (((σ.1 61 (((σ.1 (d + 1) (x2).toNatClampNeg) - (1 : Int32))).toNatClampNeg) = (σ.1 (d + 2) (x2).toNatClampNeg) → ∀ v3 : Int32, v3 = x2 + (1 : Int32) → P2 v3 σ) ∧ (¬ (σ.1 61 (((σ.1 (d + 1) (x2).toNatClampNeg) - (1 : Int32))).toNatClampNeg) = (σ.1 (d + 2) (x2).toNatClampNeg) → Q (0 : Int32) σ)))))) → P2 x2 σ) →
  P2 (0 : Int32) σ
theorem in_X3_fits_X3 : ∀ w ∈ wsX30, w ∈ wsX3_fits := fun _ h => List.mem_cons_of_mem _ (List.mem_append_right _ h)
def rmX3_fits : Room := { frames := 0, cells := 0, slots := 0, locals := 0 }
theorem hdX3_fits : yX3_fits.cls = RX3 ∧ yX3_fits.cls ≠ "java/lang/invoke/MethodHandle" ∧ yX3_fits.cls ≠ "java/lang/invoke/VarHandle" ∧ (parseMethodDescriptor yX3_fits.desc).map (fun d => d.parameters.length) = some 1 := by decide +kernel
set_option maxHeartbeats 4000000 in
set_option maxRecDepth 100000 in
theorem c_X3_fits {l : Launch} {E : EE} {d : Nat} (hd : isSig d = true) {σ : Mem} {Q : Int32 → Mem → Prop} (h : wp_X3_fits d σ Q) : CtI l yX3_fits wsX3_fits rmX3_fits E [.ref (eA E d), .ref (eA E 61)] σ Q := by
  refine metI (cc := cX3_fits) (nL := 3) (ret := (some .boolean)) (lv := [(0, .ref (eA E d)), (1, .ref (eA E 61))]) (by decide) rfl (Nat.le_of_ble_eq_true rfl) rfl ?_
  intro p e s m args below meth c C
  unfold wp_X3_fits at h
  replace h := h (fun (x2 : Int32) (σ : Mem) => J E p l e rmX3_fits s m args below meth c (QI E below args s Q) 3 2 [(0, .ref (eA E d)), (1, .ref (eA E 61)), (2, .int x2)] [] σ) (by
    intro x2 σ h
    refine j_iload_n C 2 dX3_fits_2 rfl 2 rfl ?_
    refine j_aload_n C 0 dX3_fits_3 rfl 0 rfl ?_
    refine j_getI C d 2 (shp_sig hd) rfl rfl in_X3_fits_X3 (by decide) (by decide +kernel) dX3_fits_4 ?_
    refine j_icmp_ge C 37 dX3_fits_7 (by decide) (fun c1 => ?_) (fun c1 => ?_)
    · replace h := h.1 c1
      refine j_iconst (v := (1 : Int32)) C dX3_fits_37 (by decide) ?_
      exact j_zret C dX3_fits_38 (Or.inr rfl) h
    · replace h := h.2 c1
      refine j_aload_n C 1 dX3_fits_10 rfl 1 rfl ?_
      refine j_aload_n C 0 dX3_fits_11 rfl 0 rfl ?_
      refine j_getR C (d + 1) d 0 (shp_sig hd) rfl rfl in_X3_fits_X3 (by decide) (by decide +kernel) dX3_fits_12 ?_
      refine j_iload_n C 2 dX3_fits_15 rfl 2 rfl ?_
      refine j_iald C (d + 1) (shp_sig1 hd) dX3_fits_16 h.1 ?_
      replace h := h.2
      refine j_iconst (v := (1 : Int32)) C dX3_fits_17 (by decide) ?_
      refine j_isub C dX3_fits_18 ?_
      refine j_iald C 61 rfl dX3_fits_19 h.1 ?_
      replace h := h.2
      refine j_aload_n C 0 dX3_fits_20 rfl 0 rfl ?_
      refine j_getR C (d + 2) d 1 (shp_sig hd) rfl rfl in_X3_fits_X3 (by decide) (by decide +kernel) dX3_fits_21 ?_
      refine j_iload_n C 2 dX3_fits_24 rfl 2 rfl ?_
      refine j_iald C (d + 2) (shp_sig2 hd) dX3_fits_25 h.1 ?_
      replace h := h.2
      refine j_icmp_eq C 31 dX3_fits_26 (by decide) (fun c2 => ?_) (fun c2 => ?_)
      · replace h := h.1 c2
        obtain ⟨v3, ev3⟩ : ∃ y : Int32, y = x2 + (1 : Int32) := ⟨_, rfl⟩
        replace h := h v3 ev3
        refine j_iinc (v := v3) (lv' := [(2, .int v3), (0, .ref (eA E d)), (1, .ref (eA E 61))]) C 2 dX3_fits_31 2 rfl (by rw [ev3]; rfl) (by decide) rfl ?_
        refine j_goto C 2 dX3_fits_34 (by decide) ?_
        exact j_sub (lv' := [(0, .ref (eA E d)), (1, .ref (eA E 61)), (2, .int v3)]) [1, 2, 0] rfl h
      · replace h := h.2 c2
        refine j_iconst (v := (0 : Int32)) C dX3_fits_29 (by decide) ?_
        exact j_zret C dX3_fits_30 (Or.inl rfl) h)
  refine j_iconst (v := (0 : Int32)) C dX3_fits_0 (by decide) ?_
  refine j_istore_n (lv' := [(2, .int (0 : Int32)), (0, .ref (eA E d)), (1, .ref (eA E 61))]) C 2 dX3_fits_1 rfl (by decide) rfl ?_
  exact j_sub (lv' := [(0, .ref (eA E d)), (1, .ref (eA E 61)), (2, .int (0 : Int32))]) [1, 2, 0] rfl h
def wp_X3_copyFrom (d : Nat) (o : Nat) (σ : Mem) (Q : Mem → Prop) : Prop :=
  ∀ σ1 : Mem, σ1 = stC σ (d + 1) (va_cpy (σ.1 (o + 1)) (σ.1 (d + 1)) 0 0 6) → ∀ σ2 : Mem, σ2 = stC σ1 (d + 2) (va_cpy (σ1.1 (o + 2)) (σ1.1 (d + 2)) 0 0 6) → ∀ σ3 : Mem, σ3 = st1 σ2 d 2 (σ2.1 o 2) → Q σ3
theorem in_X3_copyFrom_X3 : ∀ w ∈ wsX30, w ∈ wsX3_copyFrom := fun _ h => List.mem_cons_of_mem _ (List.mem_append_right _ h)
def rmX3_copyFrom : Room := { frames := 1, cells := 0, slots := 0, locals := 60 }
theorem hdX3_copyFrom : yX3_copyFrom.cls = RX3 ∧ yX3_copyFrom.cls ≠ "java/lang/invoke/MethodHandle" ∧ yX3_copyFrom.cls ≠ "java/lang/invoke/VarHandle" ∧ (parseMethodDescriptor yX3_copyFrom.desc).map (fun d => d.parameters.length) = some 1 := by decide +kernel
set_option maxHeartbeats 4000000 in
set_option maxRecDepth 100000 in
theorem c_X3_copyFrom {l : Launch} {E : EE} {d : Nat} {o : Nat} (hd : isSig d = true) (ho : isSig o = true) {σ : Mem} {Q : Mem → Prop} (h : wp_X3_copyFrom d o σ Q) : CtV l yX3_copyFrom wsX3_copyFrom rmX3_copyFrom E [.ref (eA E d), .ref (eA E o)] σ Q := by
  refine metV (cc := cX3_copyFrom) (nL := 2) (ret := none) (lv := [(0, .ref (eA E d)), (1, .ref (eA E o))]) (by decide) rfl (Nat.le_of_ble_eq_true rfl) rfl ?_
  intro p e s m args below meth c C
  unfold wp_X3_copyFrom at h
  refine j_aload_n C 1 dX3_copyFrom_0 rfl 1 rfl ?_
  refine j_getR C (o + 1) o 0 (shp_sig ho) rfl rfl in_X3_copyFrom_X3 (by decide) (by decide +kernel) dX3_copyFrom_1 ?_
  refine j_iconst (v := (0 : Int32)) C dX3_copyFrom_4 (by decide) ?_
  refine j_aload_n C 0 dX3_copyFrom_5 rfl 0 rfl ?_
  refine j_getR C (d + 1) d 0 (shp_sig hd) rfl rfl in_X3_copyFrom_X3 (by decide) (by decide +kernel) dX3_copyFrom_6 ?_
  refine j_iconst (v := (0 : Int32)) C dX3_copyFrom_9 (by decide) ?_
  refine j_bipush (v := (6 : Int32)) C dX3_copyFrom_10 (by decide) ?_
  refine j_copy (NN := 6) C (o + 1) (d + 1) (shp_sig1 ho) (shp_sig1 hd) (by decide +kernel) (by decide +kernel) (by decide +kernel) (by decide +kernel) (by decide) rfl (by decide) (by decide) (Nat.le_of_ble_eq_true rfl) (Nat.le_of_ble_eq_true rfl) dX3_copyFrom_12 ?_
  refine j_mem (fun σ1 eσ1 => ?_)
  replace h := h σ1 eσ1
  refine j_aload_n C 1 dX3_copyFrom_15 rfl 1 rfl ?_
  refine j_getR C (o + 2) o 1 (shp_sig ho) rfl rfl in_X3_copyFrom_X3 (by decide) (by decide +kernel) dX3_copyFrom_16 ?_
  refine j_iconst (v := (0 : Int32)) C dX3_copyFrom_19 (by decide) ?_
  refine j_aload_n C 0 dX3_copyFrom_20 rfl 0 rfl ?_
  refine j_getR C (d + 2) d 1 (shp_sig hd) rfl rfl in_X3_copyFrom_X3 (by decide) (by decide +kernel) dX3_copyFrom_21 ?_
  refine j_iconst (v := (0 : Int32)) C dX3_copyFrom_24 (by decide) ?_
  refine j_bipush (v := (6 : Int32)) C dX3_copyFrom_25 (by decide) ?_
  refine j_copy (NN := 6) C (o + 2) (d + 2) (shp_sig2 ho) (shp_sig2 hd) (by decide +kernel) (by decide +kernel) (by decide +kernel) (by decide +kernel) (by decide) rfl (by decide) (by decide) (Nat.le_of_ble_eq_true rfl) (Nat.le_of_ble_eq_true rfl) dX3_copyFrom_27 ?_
  refine j_mem (fun σ2 eσ2 => ?_)
  replace h := h σ2 eσ2
  refine j_aload_n C 0 dX3_copyFrom_30 rfl 0 rfl ?_
  refine j_aload_n C 1 dX3_copyFrom_31 rfl 1 rfl ?_
  refine j_getI C o 2 (shp_sig ho) rfl rfl in_X3_copyFrom_X3 (by decide) (by decide +kernel) dX3_copyFrom_32 ?_
  refine j_put C d 2 (shp_sig hd) rfl rfl in_X3_copyFrom_X3 tyX3 tyX3_ok nmX3 (by decide) (by decide +kernel) rfl rfl rfl rfl dX3_copyFrom_35 ?_
  refine j_mem (fun σ3 eσ3 => ?_)
  replace h := h σ3 eσ3
  exact j_vret C dX3_copyFrom_38 h
def wp_X2_renew (d : Nat) (a1 : Int32) (a2 : Int32) (σ : Mem) (Q : Mem → Prop) : Prop :=
  ∀ (P12 : Int32 → Mem → Prop),
  (∀ (x3 : Int32) (σ : Mem), (((40 : Int32) ≤ x3 → Q σ) ∧ (¬ (40 : Int32) ≤ x3 → vp_in x3 40 ∧ (∀ σ2 : Mem, σ2 = st1 σ (d + 1) (x3).toNatClampNeg (0 : Int32) → ∀ v3 : Int32, v3 = x3 + (1 : Int32) → P12 v3 σ2))) → P12 x3 σ) →
  ∀ σ4 : Mem, σ4 = st1 σ d 1 a1 → ∀ σ5 : Mem, σ5 = st1 σ4 d 2 a2 → P12 (0 : Int32) σ5
theorem in_X2_renew_X2 : ∀ w ∈ wsX20, w ∈ wsX2_renew := fun _ h => List.mem_cons_of_mem _ (List.mem_append_right _ h)
def rmX2_renew : Room := { frames := 0, cells := 0, slots := 0, locals := 0 }
theorem hdX2_renew : yX2_renew.cls = RX2 ∧ yX2_renew.cls ≠ "java/lang/invoke/MethodHandle" ∧ yX2_renew.cls ≠ "java/lang/invoke/VarHandle" ∧ (parseMethodDescriptor yX2_renew.desc).map (fun d => d.parameters.length) = some 2 := by decide +kernel
set_option maxHeartbeats 4000000 in
set_option maxRecDepth 100000 in
theorem c_X2_renew {l : Launch} {E : EE} {d : Nat} {a1 : Int32} {a2 : Int32} (hd : isShe d = true) {σ : Mem} {Q : Mem → Prop} (h : wp_X2_renew d a1 a2 σ Q) : CtV l yX2_renew wsX2_renew rmX2_renew E [.ref (eA E d), .int a1, .int a2] σ Q := by
  refine metV (cc := cX2_renew) (nL := 4) (ret := none) (lv := [(0, .ref (eA E d)), (1, .int a1), (2, .int a2)]) (by decide) rfl (Nat.le_of_ble_eq_true rfl) rfl ?_
  intro p e s m args below meth c C
  unfold wp_X2_renew at h
  replace h := h (fun (x3 : Int32) (σ : Mem) => J E p l e rmX2_renew s m args below meth c (QV E below args s Q) 4 12 [(0, .ref (eA E d)), (3, .int x3)] [] σ) (by
    intro x3 σ h
    refine j_iload_n C 3 dX2_renew_12 rfl 1 rfl ?_
    refine j_bipush (v := (40 : Int32)) C dX2_renew_13 (by decide) ?_
    refine j_icmp_ge C 31 dX2_renew_15 (by decide) (fun c1 => ?_) (fun c1 => ?_)
    · replace h := h.1 c1
      exact j_vret C dX2_renew_31 h
    · replace h := h.2 c1
      refine j_aload_n C 0 dX2_renew_18 rfl 0 rfl ?_
      refine j_getR C (d + 1) d 0 (shp_she hd) rfl rfl in_X2_renew_X2 (by decide) (by decide +kernel) dX2_renew_19 ?_
      refine j_iload_n C 3 dX2_renew_22 rfl 1 rfl ?_
      refine j_iconst (v := (0 : Int32)) C dX2_renew_23 (by decide) ?_
      refine j_iast C (d + 1) (shp_sheC hd) dX2_renew_24 h.1 ?_
      replace h := h.2
      refine j_mem (fun σ2 eσ2 => ?_)
      replace h := h σ2 eσ2
      obtain ⟨v3, ev3⟩ : ∃ y : Int32, y = x3 + (1 : Int32) := ⟨_, rfl⟩
      replace h := h v3 ev3
      refine j_iinc (v := v3) (lv' := [(3, .int v3), (0, .ref (eA E d))]) C 3 dX2_renew_25 1 rfl (by rw [ev3]; rfl) (by decide) rfl ?_
      refine j_goto C 12 dX2_renew_28 (by decide) ?_
      exact j_sub (lv' := [(0, .ref (eA E d)), (3, .int v3)]) [1, 0] rfl h)
  refine j_aload_n C 0 dX2_renew_0 rfl 0 rfl ?_
  refine j_iload_n C 1 dX2_renew_1 rfl 1 rfl ?_
  refine j_put C d 1 (shp_she hd) rfl rfl in_X2_renew_X2 tyX2 tyX2_ok nmX2 (by decide) (by decide +kernel) rfl rfl rfl rfl dX2_renew_2 ?_
  refine j_mem (fun σ4 eσ4 => ?_)
  replace h := h σ4 eσ4
  refine j_aload_n C 0 dX2_renew_5 rfl 0 rfl ?_
  refine j_iload_n C 2 dX2_renew_6 rfl 2 rfl ?_
  refine j_put C d 2 (shp_she hd) rfl rfl in_X2_renew_X2 tyX2 tyX2_ok nmX2 (by decide) (by decide +kernel) rfl rfl rfl rfl dX2_renew_7 ?_
  refine j_mem (fun σ5 eσ5 => ?_)
  replace h := h σ5 eσ5
  refine j_iconst (v := (0 : Int32)) C dX2_renew_10 (by decide) ?_
  refine j_istore_n (lv' := [(3, .int (0 : Int32)), (0, .ref (eA E d)), (1, .int a1), (2, .int a2)]) C 3 dX2_renew_11 rfl (by decide) rfl ?_
  exact j_sub (lv' := [(0, .ref (eA E d)), (3, .int (0 : Int32))]) [1, 0] rfl h
def wp_X2_faultAt (d : Nat) (a1 : Int32) (a2 : Int32) (σ : Mem) (Q : Int32 → Mem → Prop) : Prop :=
  (0 ≤ (σ.1 d 2) → (a1 = (σ.1 d 1) → wp_X5_within a2 (0 : Int32) (((σ.1 d 2) - (1 : Int32))) σ (fun r4 σ3 => (r4 = 0 → Q (2 : Int32) σ3) ∧ (¬ r4 = 0 → Q (0 : Int32) σ3))) ∧ (¬ a1 = (σ.1 d 1) → Q (3 : Int32) σ)) ∧ (¬ 0 ≤ (σ.1 d 2) → Q (1 : Int32) σ)
theorem in_X2_faultAt_X2 : ∀ w ∈ wsX20, w ∈ wsX2_faultAt := fun _ h => List.mem_cons_of_mem _ (List.mem_append_right _ h)
def rmX2_faultAt : Room := { frames := 1, cells := 0, slots := 0, locals := 22 }
theorem hdX2_faultAt : yX2_faultAt.cls = RX2 ∧ yX2_faultAt.cls ≠ "java/lang/invoke/MethodHandle" ∧ yX2_faultAt.cls ≠ "java/lang/invoke/VarHandle" ∧ (parseMethodDescriptor yX2_faultAt.desc).map (fun d => d.parameters.length) = some 2 := by decide +kernel
set_option maxHeartbeats 4000000 in
set_option maxRecDepth 100000 in
theorem c_X2_faultAt {l : Launch} {E : EE} {d : Nat} {a1 : Int32} {a2 : Int32} (hd : isShe d = true) {σ : Mem} {Q : Int32 → Mem → Prop} (h : wp_X2_faultAt d a1 a2 σ Q) : CtI l yX2_faultAt wsX2_faultAt rmX2_faultAt E [.ref (eA E d), .int a1, .int a2] σ Q := by
  refine metI (cc := cX2_faultAt) (nL := 3) (ret := (some .int)) (lv := [(0, .ref (eA E d)), (1, .int a1), (2, .int a2)]) (by decide) rfl (Nat.le_of_ble_eq_true rfl) rfl ?_
  intro p e s m args below meth c C
  unfold wp_X2_faultAt at h
  refine j_aload_n C 0 dX2_faultAt_0 rfl 0 rfl ?_
  refine j_getI C d 2 (shp_she hd) rfl rfl in_X2_faultAt_X2 (by decide) (by decide +kernel) dX2_faultAt_1 ?_
  refine j_if_ge C 9 dX2_faultAt_4 (by decide) (fun c1 => ?_) (fun c1 => ?_)
  · replace h := h.1 c1
    refine j_iload_n C 1 dX2_faultAt_9 rfl 1 rfl ?_
    refine j_aload_n C 0 dX2_faultAt_10 rfl 0 rfl ?_
    refine j_getI C d 1 (shp_she hd) rfl rfl in_X2_faultAt_X2 (by decide) (by decide +kernel) dX2_faultAt_11 ?_
    refine j_icmp_eq C 19 dX2_faultAt_14 (by decide) (fun c2 => ?_) (fun c2 => ?_)
    · replace h := h.1 c2
      refine j_iload_n C 2 dX2_faultAt_19 rfl 2 rfl ?_
      refine j_iconst (v := (0 : Int32)) C dX2_faultAt_20 (by decide) ?_
      refine j_aload_n C 0 dX2_faultAt_21 rfl 0 rfl ?_
      refine j_getI C d 2 (shp_she hd) rfl rfl in_X2_faultAt_X2 (by decide) (by decide +kernel) dX2_faultAt_22 ?_
      refine j_iconst (v := (1 : Int32)) C dX2_faultAt_25 (by decide) ?_
      refine j_isub C dX2_faultAt_26 ?_
      refine j_callNI (As := [.int a2, .int (0 : Int32), .int ((σ.1 d 2) - (1 : Int32))]) (rest := []) C (c_X5_within h) ⟨va_cnB 3 C.2.2.2.2.2.1 gX2_faultAt_X5_within_n22 rfl rfl rfl C.2.2.2.2.2.2.2.1.2.1.2.2.2.1 (C.2.2.2.2.2.1 _ (by decide +kernel)) hdX5_within.2 ⟨Nat.le_of_ble_eq_true rfl, Nat.le_of_ble_eq_true rfl⟩, C.2.2.2.2.2.1 _ (by decide +kernel), trivial⟩ rfl rfl (Nat.le_of_ble_eq_true rfl) dX2_faultAt_27 (fun r4 σ3 h => ?_)
      refine j_if_eq C 37 dX2_faultAt_30 (by decide) (fun c5 => ?_) (fun c5 => ?_)
      · replace h := h.1 c5
        refine j_iconst (v := (2 : Int32)) C dX2_faultAt_37 (by decide) ?_
        exact j_iret C dX2_faultAt_38 h
      · replace h := h.2 c5
        refine j_iconst (v := (0 : Int32)) C dX2_faultAt_33 (by decide) ?_
        refine j_goto C 38 dX2_faultAt_34 (by decide) ?_
        exact j_iret C dX2_faultAt_38 h
    · replace h := h.2 c2
      refine j_iconst (v := (3 : Int32)) C dX2_faultAt_17 (by decide) ?_
      exact j_iret C dX2_faultAt_18 h
  · replace h := h.2 c1
    refine j_iconst (v := (1 : Int32)) C dX2_faultAt_7 (by decide) ?_
    exact j_iret C dX2_faultAt_8 h
def wp_X2_narrowed (d : Nat) (a1 : Int32) (σ : Mem) (Q : Int32 → Mem → Prop) : Prop :=
  ((σ.1 d 1) = (0 : Int32) → Q (a1).toInt8.toInt32 σ) ∧ ((σ.1 d 1) = (1 : Int32) → Q (a1).toInt16.toInt32 σ) ∧ (¬ (σ.1 d 1) = (0 : Int32) → ¬ (σ.1 d 1) = (1 : Int32) → Q a1 σ)
theorem in_X2_narrowed_X2 : ∀ w ∈ wsX20, w ∈ wsX2_narrowed := fun _ h => List.mem_cons_of_mem _ (List.mem_append_right _ h)
def rmX2_narrowed : Room := { frames := 0, cells := 0, slots := 0, locals := 0 }
theorem hdX2_narrowed : yX2_narrowed.cls = RX2 ∧ yX2_narrowed.cls ≠ "java/lang/invoke/MethodHandle" ∧ yX2_narrowed.cls ≠ "java/lang/invoke/VarHandle" ∧ (parseMethodDescriptor yX2_narrowed.desc).map (fun d => d.parameters.length) = some 1 := by decide +kernel
set_option maxHeartbeats 4000000 in
set_option maxRecDepth 100000 in
theorem c_X2_narrowed {l : Launch} {E : EE} {d : Nat} {a1 : Int32} (hd : isShe d = true) {σ : Mem} {Q : Int32 → Mem → Prop} (h : wp_X2_narrowed d a1 σ Q) : CtI l yX2_narrowed wsX2_narrowed rmX2_narrowed E [.ref (eA E d), .int a1] σ Q := by
  refine metI (cc := cX2_narrowed) (nL := 2) (ret := (some .int)) (lv := [(0, .ref (eA E d)), (1, .int a1)]) (by decide) rfl (Nat.le_of_ble_eq_true rfl) rfl ?_
  intro p e s m args below meth c C
  unfold wp_X2_narrowed at h
  refine j_aload_n C 0 dX2_narrowed_0 rfl 0 rfl ?_
  refine j_getI C d 1 (shp_she hd) rfl rfl in_X2_narrowed_X2 (by decide) (by decide +kernel) dX2_narrowed_1 ?_
  by_cases c1 : (σ.1 d 1) = (0 : Int32)
  · replace h := h.1 c1
    refine j_lookup (off := 28) C 32 dX2_narrowed_4 (by decide) (by rw [c1]; rfl) (by decide) ?_
    refine j_iload_n C 1 dX2_narrowed_32 rfl 1 rfl ?_
    refine j_i2b C dX2_narrowed_33 rfl ?_
    exact j_iret C dX2_narrowed_34 h
  by_cases c2 : (σ.1 d 1) = (1 : Int32)
  · replace h := h.2.1 c2
    refine j_lookup (off := 31) C 35 dX2_narrowed_4 (by decide) (by rw [c2]; rfl) (by decide) ?_
    refine j_iload_n C 1 dX2_narrowed_35 rfl 1 rfl ?_
    refine j_i2s C dX2_narrowed_36 rfl ?_
    exact j_iret C dX2_narrowed_37 h
  replace h := h.2.2 c1 c2
  refine j_lookup (off := 34) C 38 dX2_narrowed_4 (by decide) (lk_out2 c1 c2) (by decide) ?_
  refine j_iload_n C 1 dX2_narrowed_38 rfl 1 rfl ?_
  exact j_iret C dX2_narrowed_39 h
def wp_X2_faultOfPair (d : Nat) (a1 : Int32) (a2 : Int32) (σ : Mem) (Q : Int32 → Mem → Prop) : Prop :=
  wp_X2_faultAt d a1 a2 σ (fun r2 σ1 => (r2 = 0 → wp_X2_faultAt d a1 ((a2 + (1 : Int32))) σ1 (fun r5 σ4 => Q r5 σ4)) ∧ (¬ r2 = 0 → Q r2 σ1))
def rmX2_faultOfPair : Room := { frames := 2, cells := 0, slots := 0, locals := 44 }
theorem hdX2_faultOfPair : yX2_faultOfPair.cls = RX2 ∧ yX2_faultOfPair.cls ≠ "java/lang/invoke/MethodHandle" ∧ yX2_faultOfPair.cls ≠ "java/lang/invoke/VarHandle" ∧ (parseMethodDescriptor yX2_faultOfPair.desc).map (fun d => d.parameters.length) = some 2 := by decide +kernel
set_option maxHeartbeats 4000000 in
set_option maxRecDepth 100000 in
theorem c_X2_faultOfPair {l : Launch} {E : EE} {d : Nat} {a1 : Int32} {a2 : Int32} (hd : isShe d = true) {σ : Mem} {Q : Int32 → Mem → Prop} (h : wp_X2_faultOfPair d a1 a2 σ Q) : CtI l yX2_faultOfPair wsX2_faultOfPair rmX2_faultOfPair E [.ref (eA E d), .int a1, .int a2] σ Q := by
  refine metI (cc := cX2_faultOfPair) (nL := 4) (ret := (some .int)) (lv := [(0, .ref (eA E d)), (1, .int a1), (2, .int a2)]) (by decide) rfl (Nat.le_of_ble_eq_true rfl) rfl ?_
  intro p e s m args below meth c C
  unfold wp_X2_faultOfPair at h
  refine j_aload_n C 0 dX2_faultOfPair_0 rfl 0 rfl ?_
  refine j_iload_n C 1 dX2_faultOfPair_1 rfl 1 rfl ?_
  refine j_iload_n C 2 dX2_faultOfPair_2 rfl 2 rfl ?_
  refine j_callVI (As := [.int a1, .int a2]) (rest := []) C d (c_X2_faultAt hd h) (cwV 2 C.2.2.2.2.2.1 gX2_faultOfPair_X2_faultAt rfl rfl rfl hdX2_faultAt ⟨Nat.le_of_ble_eq_true rfl, Nat.le_of_ble_eq_true rfl⟩) (shp_she hd) rfl rfl rfl (Nat.le_of_ble_eq_true rfl) dX2_faultOfPair_3 (fun r2 σ1 h => ?_)
  refine j_istore_n (lv' := [(3, .int r2), (0, .ref (eA E d)), (1, .int a1), (2, .int a2)]) C 3 dX2_faultOfPair_6 rfl (by decide) rfl ?_
  refine j_iload_n C 3 dX2_faultOfPair_7 rfl 0 rfl ?_
  refine j_if_eq C 15 dX2_faultOfPair_8 (by decide) (fun c3 => ?_) (fun c3 => ?_)
  · replace h := h.1 c3
    refine j_aload_n C 0 dX2_faultOfPair_15 rfl 1 rfl ?_
    refine j_iload_n C 1 dX2_faultOfPair_16 rfl 2 rfl ?_
    refine j_iload_n C 2 dX2_faultOfPair_17 rfl 3 rfl ?_
    refine j_iconst (v := (1 : Int32)) C dX2_faultOfPair_18 (by decide) ?_
    refine j_iadd C dX2_faultOfPair_19 ?_
    refine j_callVI (As := [.int a1, .int (a2 + (1 : Int32))]) (rest := []) C d (c_X2_faultAt hd h) (cwV 2 C.2.2.2.2.2.1 gX2_faultOfPair_X2_faultAt rfl rfl rfl hdX2_faultAt ⟨Nat.le_of_ble_eq_true rfl, Nat.le_of_ble_eq_true rfl⟩) (shp_she hd) rfl rfl rfl (Nat.le_of_ble_eq_true rfl) dX2_faultOfPair_20 (fun r5 σ4 h => ?_)
    exact j_iret C dX2_faultOfPair_23 h
  · replace h := h.2 c3
    refine j_iload_n C 3 dX2_faultOfPair_11 rfl 0 rfl ?_
    refine j_goto C 23 dX2_faultOfPair_12 (by decide) ?_
    exact j_iret C dX2_faultOfPair_23 h
def wp_X0_sumOf (d : Nat) (a1 : Int32) (σ : Mem) (Q : Int32 → Mem → Prop) : Prop :=
  ∀ (P4 : Int32 → Int32 → Mem → Prop),
  (∀ (x2 : Int32) (x3 : Int32) (σ : Mem), (((σ.1 d 2) ≤ x3 → Q x2 σ) ∧ (¬ (σ.1 d 2) ≤ x3 → vp_in a1 4 ∧ (vp_in x3 6 ∧ (∀ v3 : Int32, v3 = (x2 + (σ.1 (d + 2 + 1 * (a1).toNatClampNeg) (x3).toNatClampNeg)) → ∀ v4 : Int32, v4 = x3 + (1 : Int32) → P4 v3 v4 σ)))) → P4 x2 x3 σ) →
  P4 (0 : Int32) (0 : Int32) σ
theorem in_X0_sumOf_X0 : ∀ w ∈ wsX00, w ∈ wsX0_sumOf := fun _ h => List.mem_cons_of_mem _ (List.mem_append_right _ h)
def rmX0_sumOf : Room := { frames := 0, cells := 0, slots := 0, locals := 0 }
theorem hdX0_sumOf : yX0_sumOf.cls = RX0 ∧ yX0_sumOf.cls ≠ "java/lang/invoke/MethodHandle" ∧ yX0_sumOf.cls ≠ "java/lang/invoke/VarHandle" ∧ (parseMethodDescriptor yX0_sumOf.desc).map (fun d => d.parameters.length) = some 1 := by decide +kernel
set_option maxHeartbeats 4000000 in
set_option maxRecDepth 100000 in
theorem c_X0_sumOf {l : Launch} {E : EE} {d : Nat} {a1 : Int32} (hd : isDyn d = true) {σ : Mem} {Q : Int32 → Mem → Prop} (h : wp_X0_sumOf d a1 σ Q) : CtI l yX0_sumOf wsX0_sumOf rmX0_sumOf E [.ref (eA E d), .int a1] σ Q := by
  refine metI (cc := cX0_sumOf) (nL := 4) (ret := (some .int)) (lv := [(0, .ref (eA E d)), (1, .int a1)]) (by decide) rfl (Nat.le_of_ble_eq_true rfl) rfl ?_
  intro p e s m args below meth c C
  unfold wp_X0_sumOf at h
  replace h := h (fun (x2 : Int32) (x3 : Int32) (σ : Mem) => J E p l e rmX0_sumOf s m args below meth c (QI E below args s Q) 4 4 [(0, .ref (eA E d)), (1, .int a1), (2, .int x2), (3, .int x3)] [] σ) (by
    intro x2 x3 σ h
    refine j_iload_n C 3 dX0_sumOf_4 rfl 3 rfl ?_
    refine j_aload_n C 0 dX0_sumOf_5 rfl 0 rfl ?_
    refine j_getI C d 2 (shp_dyn hd) rfl rfl in_X0_sumOf_X0 (by decide) (by decide +kernel) dX0_sumOf_6 ?_
    refine j_icmp_ge C 29 dX0_sumOf_9 (by decide) (fun c1 => ?_) (fun c1 => ?_)
    · replace h := h.1 c1
      refine j_iload_n C 2 dX0_sumOf_29 rfl 2 rfl ?_
      exact j_iret C dX0_sumOf_30 h
    · replace h := h.2 c1
      refine j_iload_n C 2 dX0_sumOf_12 rfl 2 rfl ?_
      refine j_aload_n C 0 dX0_sumOf_13 rfl 0 rfl ?_
      refine j_getR C (d + 1) d 0 (shp_dyn hd) rfl rfl in_X0_sumOf_X0 (by decide) (by decide +kernel) dX0_sumOf_14 ?_
      refine j_iload_n C 1 dX0_sumOf_17 rfl 1 rfl ?_
      obtain ⟨b2, h⟩ := h
      refine j_aald C (d + 1) 5 (shp_dynT hd) rfl rfl dX0_sumOf_18 b2 ?_
      refine j_iload_n C 3 dX0_sumOf_19 rfl 3 rfl ?_
      refine j_iald C (d + 2 + 1 * (a1).toNatClampNeg) (shp_dynR hd b2) dX0_sumOf_20 h.1 ?_
      replace h := h.2
      refine j_iadd C dX0_sumOf_21 ?_
      refine j_topi (fun v3 ev3 => ?_)
      replace h := h v3 ev3
      refine j_istore_n (lv' := [(2, .int v3), (0, .ref (eA E d)), (1, .int a1), (3, .int x3)]) C 2 dX0_sumOf_22 rfl (by decide) rfl ?_
      obtain ⟨v4, ev4⟩ : ∃ y : Int32, y = x3 + (1 : Int32) := ⟨_, rfl⟩
      replace h := h v4 ev4
      refine j_iinc (v := v4) (lv' := [(3, .int v4), (2, .int v3), (0, .ref (eA E d)), (1, .int a1)]) C 3 dX0_sumOf_23 3 rfl (by rw [ev4]; rfl) (by decide) rfl ?_
      refine j_goto C 4 dX0_sumOf_26 (by decide) ?_
      exact j_sub (lv' := [(0, .ref (eA E d)), (1, .int a1), (2, .int v3), (3, .int v4)]) [2, 3, 1, 0] rfl h)
  refine j_iconst (v := (0 : Int32)) C dX0_sumOf_0 (by decide) ?_
  refine j_istore_n (lv' := [(2, .int (0 : Int32)), (0, .ref (eA E d)), (1, .int a1)]) C 2 dX0_sumOf_1 rfl (by decide) rfl ?_
  refine j_iconst (v := (0 : Int32)) C dX0_sumOf_2 (by decide) ?_
  refine j_istore_n (lv' := [(3, .int (0 : Int32)), (2, .int (0 : Int32)), (0, .ref (eA E d)), (1, .int a1)]) C 3 dX0_sumOf_3 rfl (by decide) rfl ?_
  exact j_sub (lv' := [(0, .ref (eA E d)), (1, .int a1), (2, .int (0 : Int32)), (3, .int (0 : Int32))]) [2, 3, 1, 0] rfl h
