def wp_X6_in (a0 : Int64) (a2 : Int64) (a4 : Int64) (σ : Mem) (Q : Int32 → Mem → Prop) : Prop :=
  ((lg_cmp a0 a2) < 0 → Q (0 : Int32) σ) ∧ (¬ (lg_cmp a0 a2) < 0 → (0 < (lg_cmp a0 a4) → Q (0 : Int32) σ) ∧ (¬ 0 < (lg_cmp a0 a4) → Q (1 : Int32) σ))
def rmX6_in : Room := { frames := 0, cells := 0, slots := 0, locals := 0 }
theorem hdX6_in : yX6_in.cls = RX6 ∧ yX6_in.cls ≠ "java/lang/invoke/MethodHandle" ∧ yX6_in.cls ≠ "java/lang/invoke/VarHandle" ∧ (parseMethodDescriptor yX6_in.desc).map (fun d => d.parameters.length) = some 3 := by decide +kernel
set_option maxHeartbeats 4000000 in
set_option maxRecDepth 100000 in
theorem c_X6_in {l : Launch} {E : EE} {a0 : Int64} {a2 : Int64} {a4 : Int64}  {σ : Mem} {Q : Int32 → Mem → Prop} (h : wp_X6_in a0 a2 a4 σ Q) : CtI l yX6_in wsX6_in rmX6_in E [.long a0, .long a2, .long a4] σ Q := by
  refine metI (cc := cX6_in) (nL := 6) (ret := (some .boolean)) (lv := [(0, .long a0), (2, .long a2), (4, .long a4)]) (by decide) rfl (Nat.le_of_ble_eq_true rfl) rfl ?_
  intro p e s m args below meth c C
  unfold wp_X6_in at h
  refine j_lload_n C 0 dX6_in_0 rfl 0 rfl ?_
  refine j_lload_n C 2 dX6_in_1 rfl 1 rfl ?_
  refine j_lcmp C dX6_in_2 ?_
  refine j_if_lt C 17 dX6_in_3 (by decide) (fun c1 => ?_) (fun c1 => ?_)
  · replace h := h.1 c1
    refine j_iconst (v := (0 : Int32)) C dX6_in_17 (by decide) ?_
    exact j_zret C dX6_in_18 (Or.inl rfl) h
  · replace h := h.2 c1
    refine j_lload_n C 0 dX6_in_6 rfl 0 rfl ?_
    refine j_lload C 4 dX6_in_7 2 rfl ?_
    refine j_lcmp C dX6_in_9 ?_
    refine j_if_gt C 17 dX6_in_10 (by decide) (fun c2 => ?_) (fun c2 => ?_)
    · replace h := h.1 c2
      refine j_iconst (v := (0 : Int32)) C dX6_in_17 (by decide) ?_
      exact j_zret C dX6_in_18 (Or.inl rfl) h
    · replace h := h.2 c2
      refine j_iconst (v := (1 : Int32)) C dX6_in_13 (by decide) ?_
      refine j_goto C 18 dX6_in_14 (by decide) ?_
      exact j_zret C dX6_in_18 (Or.inr rfl) h
def wp_X6_flag (a0 : Int32) (σ : Mem) (Q : Int32 → Mem → Prop) : Prop :=
  (a0 = 0 → Q (0 : Int32) σ) ∧ (¬ a0 = 0 → Q (1 : Int32) σ)
def rmX6_flag : Room := { frames := 0, cells := 0, slots := 0, locals := 0 }
theorem hdX6_flag : yX6_flag.cls = RX6 ∧ yX6_flag.cls ≠ "java/lang/invoke/MethodHandle" ∧ yX6_flag.cls ≠ "java/lang/invoke/VarHandle" ∧ (parseMethodDescriptor yX6_flag.desc).map (fun d => d.parameters.length) = some 1 := by decide +kernel
set_option maxHeartbeats 4000000 in
set_option maxRecDepth 100000 in
theorem c_X6_flag {l : Launch} {E : EE} {a0 : Int32}  {σ : Mem} {Q : Int32 → Mem → Prop} (h : wp_X6_flag a0 σ Q) : CtI l yX6_flag wsX6_flag rmX6_flag E [.int a0] σ Q := by
  refine metI (cc := cX6_flag) (nL := 1) (ret := (some .int)) (lv := [(0, .int a0)]) (by decide) rfl (Nat.le_of_ble_eq_true rfl) rfl ?_
  intro p e s m args below meth c C
  unfold wp_X6_flag at h
  refine j_iload_n C 0 dX6_flag_0 rfl 0 rfl ?_
  refine j_if_eq C 8 dX6_flag_1 (by decide) (fun c1 => ?_) (fun c1 => ?_)
  · replace h := h.1 c1
    refine j_iconst (v := (0 : Int32)) C dX6_flag_8 (by decide) ?_
    exact j_iret C dX6_flag_9 h
  · replace h := h.2 c1
    refine j_iconst (v := (1 : Int32)) C dX6_flag_4 (by decide) ?_
    refine j_goto C 9 dX6_flag_5 (by decide) ?_
    exact j_iret C dX6_flag_9 h
def wp_X6_firstDraft (σ : Mem) (Q : Mem → Prop) : Prop :=
  ∀ (P2 : Int32 → Mem → Prop),
  (∀ (x1 : Int32) (σ : Mem), (((49 : Int32) ≤ x1 → ∀ σ2 : Mem, σ2 = st1 σ 64 4 (0 : Int32) → ∀ σ3 : Mem, σ3 = st1 σ2 64 5 (0 : Int32) → ∀ σ4 : Mem, σ4 = st1 σ3 64 6 (0 : Int32) → ∀ σ5 : Mem, σ5 = st1 σ4 64 8 (-4 : Int32) → Q σ5) ∧ (¬ (49 : Int32) ≤ x1 → vp_in x1 49 ∧ (∀ σ6 : Mem, σ6 = st1 σ 68 (x1).toNatClampNeg (0 : Int32) → ∀ v7 : Int32, v7 = x1 + (1 : Int32) → P2 v7 σ6))) → P2 x1 σ) →
  P2 (0 : Int32) σ
theorem in_X6_firstDraft_X6 : ∀ w ∈ wsX60, w ∈ wsX6_firstDraft := fun _ h => List.mem_cons_of_mem _ (List.mem_append_right _ h)
def rmX6_firstDraft : Room := { frames := 0, cells := 0, slots := 0, locals := 0 }
theorem hdX6_firstDraft : yX6_firstDraft.cls = RX6 ∧ yX6_firstDraft.cls ≠ "java/lang/invoke/MethodHandle" ∧ yX6_firstDraft.cls ≠ "java/lang/invoke/VarHandle" ∧ (parseMethodDescriptor yX6_firstDraft.desc).map (fun d => d.parameters.length) = some 0 := by decide +kernel
set_option maxHeartbeats 4000000 in
set_option maxRecDepth 100000 in
theorem c_X6_firstDraft {l : Launch} {E : EE}   {σ : Mem} {Q : Mem → Prop} (h : wp_X6_firstDraft  σ Q) : CtV l yX6_firstDraft wsX6_firstDraft rmX6_firstDraft E [.ref (eA E 64)] σ Q := by
  refine metV (cc := cX6_firstDraft) (nL := 2) (ret := none) (lv := [(0, .ref (eA E 64))]) (by decide) rfl (Nat.le_of_ble_eq_true rfl) rfl ?_
  intro p e s m args below meth c C
  unfold wp_X6_firstDraft at h
  replace h := h (fun (x1 : Int32) (σ : Mem) => J E p l e rmX6_firstDraft s m args below meth c (QV E below args s Q) 2 2 [(0, .ref (eA E 64)), (1, .int x1)] [] σ) (by
    intro x1 σ h
    refine j_iload_n C 1 dX6_firstDraft_2 rfl 1 rfl ?_
    refine j_bipush (v := (49 : Int32)) C dX6_firstDraft_3 (by decide) ?_
    refine j_icmp_ge C 21 dX6_firstDraft_5 (by decide) (fun c1 => ?_) (fun c1 => ?_)
    · replace h := h.1 c1
      refine j_aload_n C 0 dX6_firstDraft_21 rfl 0 rfl ?_
      refine j_iconst (v := (0 : Int32)) C dX6_firstDraft_22 (by decide) ?_
      refine j_put C 64 4 rfl rfl rfl in_X6_firstDraft_X6 tyX6 tyX6_ok nmX6 (by decide) (by decide +kernel) rfl rfl rfl rfl dX6_firstDraft_23 ?_
      refine j_mem (fun σ2 eσ2 => ?_)
      replace h := h σ2 eσ2
      refine j_aload_n C 0 dX6_firstDraft_26 rfl 0 rfl ?_
      refine j_iconst (v := (0 : Int32)) C dX6_firstDraft_27 (by decide) ?_
      refine j_put C 64 5 rfl rfl rfl in_X6_firstDraft_X6 tyX6 tyX6_ok nmX6 (by decide) (by decide +kernel) rfl rfl rfl rfl dX6_firstDraft_28 ?_
      refine j_mem (fun σ3 eσ3 => ?_)
      replace h := h σ3 eσ3
      refine j_aload_n C 0 dX6_firstDraft_31 rfl 0 rfl ?_
      refine j_iconst (v := (0 : Int32)) C dX6_firstDraft_32 (by decide) ?_
      refine j_put C 64 6 rfl rfl rfl in_X6_firstDraft_X6 tyX6 tyX6_ok nmX6 (by decide) (by decide +kernel) rfl rfl rfl rfl dX6_firstDraft_33 ?_
      refine j_mem (fun σ4 eσ4 => ?_)
      replace h := h σ4 eσ4
      refine j_aload_n C 0 dX6_firstDraft_36 rfl 0 rfl ?_
      refine j_bipush (v := (-4 : Int32)) C dX6_firstDraft_37 (by decide) ?_
      refine j_put C 64 8 rfl rfl rfl in_X6_firstDraft_X6 tyX6 tyX6_ok nmX6 (by decide) (by decide +kernel) rfl rfl rfl rfl dX6_firstDraft_39 ?_
      refine j_mem (fun σ5 eσ5 => ?_)
      replace h := h σ5 eσ5
      exact j_vret C dX6_firstDraft_42 h
    · replace h := h.2 c1
      refine j_aload_n C 0 dX6_firstDraft_8 rfl 0 rfl ?_
      refine j_getR C 68 64 3 rfl rfl rfl in_X6_firstDraft_X6 (by decide) (by decide +kernel) dX6_firstDraft_9 ?_
      refine j_iload_n C 1 dX6_firstDraft_12 rfl 1 rfl ?_
      refine j_iconst (v := (0 : Int32)) C dX6_firstDraft_13 (by decide) ?_
      refine j_iast C 68 rfl dX6_firstDraft_14 h.1 ?_
      replace h := h.2
      refine j_mem (fun σ6 eσ6 => ?_)
      replace h := h σ6 eσ6
      obtain ⟨v7, ev7⟩ : ∃ y : Int32, y = x1 + (1 : Int32) := ⟨_, rfl⟩
      replace h := h v7 ev7
      refine j_iinc (v := v7) (lv' := [(1, .int v7), (0, .ref (eA E 64))]) C 1 dX6_firstDraft_15 1 rfl (by rw [ev7]; rfl) (by decide) rfl ?_
      refine j_goto C 2 dX6_firstDraft_18 (by decide) ?_
      exact j_sub (lv' := [(0, .ref (eA E 64)), (1, .int v7)]) [1, 0] rfl h)
  refine j_iconst (v := (0 : Int32)) C dX6_firstDraft_0 (by decide) ?_
  refine j_istore_n (lv' := [(1, .int (0 : Int32)), (0, .ref (eA E 64))]) C 1 dX6_firstDraft_1 rfl (by decide) rfl ?_
  exact j_sub (lv' := [(0, .ref (eA E 64)), (1, .int (0 : Int32))]) [1, 0] rfl h
def wp_X6_keepDraft (σ : Mem) (Q : Mem → Prop) : Prop :=
  ∀ (P2 : Int32 → Mem → Prop) (P28 : Int32 → Mem → Prop) (P64 : Int32 → Int32 → Mem → Prop) (P99 : Int32 → Int32 → Mem → Prop),
  (∀ (x1 : Int32) (σ : Mem), (((49 : Int32) ≤ x1 → P28 (0 : Int32) σ) ∧ (¬ (49 : Int32) ≤ x1 → vp_in x1 49 ∧ (vp_in x1 147 ∧ (∀ σ2 : Mem, σ2 = st1 σ 65 (x1).toNatClampNeg (σ.1 68 (x1).toNatClampNeg) → ∀ v3 : Int32, v3 = x1 + (1 : Int32) → P2 v3 σ2)))) → P2 x1 σ) →
  (∀ (x1 : Int32) (σ : Mem), (((σ.1 64 6) ≤ x1 → ∀ v5 : Int32, v5 = (σ.1 64 6) → P64 v5 (0 : Int32) σ) ∧ (¬ (σ.1 64 6) ≤ x1 → vp_in x1 6 ∧ (vp_in ((25 : Int32) + x1) 147 ∧ (∀ σ6 : Mem, σ6 = st1 σ 65 (((25 : Int32) + x1)).toNatClampNeg (σ.1 69 (x1).toNatClampNeg) → ∀ v7 : Int32, v7 = x1 + (1 : Int32) → P28 v7 σ6)))) → P28 x1 σ) →
  (∀ (x1 : Int32) (x2 : Int32) (σ : Mem), (((σ.1 65 ((24 : Int32)).toNatClampNeg) ≤ x2 → ∀ σ9 : Mem, σ9 = st1 σ 67 ((0 : Int32)).toNatClampNeg (vp_nar .boolean (0 : Int32)) → ∀ σ10 : Mem, σ10 = st1 σ9 67 ((1 : Int32)).toNatClampNeg (vp_nar .boolean (0 : Int32)) → Q σ10) ∧ (¬ (σ.1 65 ((24 : Int32)).toNatClampNeg) ≤ x2 → (¬ (((σ.1 64 5) >>> (x2 &&& 31)) &&& (1 : Int32)) = 0 → P99 x1 x2 σ) ∧ ((((σ.1 64 5) >>> (x2 &&& 31)) &&& (1 : Int32)) = 0 → vp_in ((25 : Int32) + x1) 147 ∧ (∀ σ12 : Mem, σ12 = st1 σ 65 (((25 : Int32) + x1)).toNatClampNeg x2 → ∀ v13 : Int32, v13 = x1 + (1 : Int32) → P99 v13 x2 σ12)))) → P64 x1 x2 σ) →
  (∀ (x1 : Int32) (x2 : Int32) (σ : Mem), (∀ v14 : Int32, v14 = x2 + (1 : Int32) → P64 x1 v14 σ) → P99 x1 x2 σ) →
  P2 (0 : Int32) σ
theorem in_X6_keepDraft_X6 : ∀ w ∈ wsX60, w ∈ wsX6_keepDraft := fun _ h => List.mem_cons_of_mem _ (List.mem_append_right _ h)
def rmX6_keepDraft : Room := { frames := 0, cells := 0, slots := 0, locals := 0 }
theorem hdX6_keepDraft : yX6_keepDraft.cls = RX6 ∧ yX6_keepDraft.cls ≠ "java/lang/invoke/MethodHandle" ∧ yX6_keepDraft.cls ≠ "java/lang/invoke/VarHandle" ∧ (parseMethodDescriptor yX6_keepDraft.desc).map (fun d => d.parameters.length) = some 0 := by decide +kernel
set_option maxHeartbeats 4000000 in
set_option maxRecDepth 100000 in
theorem c_X6_keepDraft {l : Launch} {E : EE}   {σ : Mem} {Q : Mem → Prop} (h : wp_X6_keepDraft  σ Q) : CtV l yX6_keepDraft wsX6_keepDraft rmX6_keepDraft E [.ref (eA E 64)] σ Q := by
  refine metV (cc := cX6_keepDraft) (nL := 3) (ret := none) (lv := [(0, .ref (eA E 64))]) (by decide) rfl (Nat.le_of_ble_eq_true rfl) rfl ?_
  intro p e s m args below meth c C
  unfold wp_X6_keepDraft at h
  replace h := h (fun (x1 : Int32) (σ : Mem) => J E p l e rmX6_keepDraft s m args below meth c (QV E below args s Q) 3 2 [(0, .ref (eA E 64)), (1, .int x1)] [] σ) (fun (x1 : Int32) (σ : Mem) => J E p l e rmX6_keepDraft s m args below meth c (QV E below args s Q) 3 28 [(0, .ref (eA E 64)), (1, .int x1)] [] σ) (fun (x1 : Int32) (x2 : Int32) (σ : Mem) => J E p l e rmX6_keepDraft s m args below meth c (QV E below args s Q) 3 64 [(0, .ref (eA E 64)), (1, .int x1), (2, .int x2)] [] σ) (fun (x1 : Int32) (x2 : Int32) (σ : Mem) => J E p l e rmX6_keepDraft s m args below meth c (QV E below args s Q) 3 99 [(0, .ref (eA E 64)), (1, .int x1), (2, .int x2)] [] σ) (by
    intro x1 σ h
    refine j_iload_n C 1 dX6_keepDraft_2 rfl 1 rfl ?_
    refine j_bipush (v := (49 : Int32)) C dX6_keepDraft_3 (by decide) ?_
    refine j_icmp_ge C 26 dX6_keepDraft_5 (by decide) (fun c1 => ?_) (fun c1 => ?_)
    · replace h := h.1 c1
      refine j_iconst (v := (0 : Int32)) C dX6_keepDraft_26 (by decide) ?_
      refine j_istore_n (lv' := [(1, .int (0 : Int32)), (0, .ref (eA E 64))]) C 1 dX6_keepDraft_27 rfl (by decide) rfl ?_
      exact j_sub (lv' := [(0, .ref (eA E 64)), (1, .int (0 : Int32))]) [1, 0] rfl h
    · replace h := h.2 c1
      refine j_aload_n C 0 dX6_keepDraft_8 rfl 0 rfl ?_
      refine j_getR C 65 64 0 rfl rfl rfl in_X6_keepDraft_X6 (by decide) (by decide +kernel) dX6_keepDraft_9 ?_
      refine j_iload_n C 1 dX6_keepDraft_12 rfl 1 rfl ?_
      refine j_aload_n C 0 dX6_keepDraft_13 rfl 0 rfl ?_
      refine j_getR C 68 64 3 rfl rfl rfl in_X6_keepDraft_X6 (by decide) (by decide +kernel) dX6_keepDraft_14 ?_
      refine j_iload_n C 1 dX6_keepDraft_17 rfl 1 rfl ?_
      refine j_iald C 68 rfl dX6_keepDraft_18 h.1 ?_
      replace h := h.2
      refine j_iast C 65 rfl dX6_keepDraft_19 h.1 ?_
      replace h := h.2
      refine j_mem (fun σ2 eσ2 => ?_)
      replace h := h σ2 eσ2
      obtain ⟨v3, ev3⟩ : ∃ y : Int32, y = x1 + (1 : Int32) := ⟨_, rfl⟩
      replace h := h v3 ev3
      refine j_iinc (v := v3) (lv' := [(1, .int v3), (0, .ref (eA E 64))]) C 1 dX6_keepDraft_20 1 rfl (by rw [ev3]; rfl) (by decide) rfl ?_
      refine j_goto C 2 dX6_keepDraft_23 (by decide) ?_
      exact j_sub (lv' := [(0, .ref (eA E 64)), (1, .int v3)]) [1, 0] rfl h) (by
    intro x1 σ h
    refine j_iload_n C 1 dX6_keepDraft_28 rfl 1 rfl ?_
    refine j_aload_n C 0 dX6_keepDraft_29 rfl 0 rfl ?_
    refine j_getI C 64 6 rfl rfl rfl in_X6_keepDraft_X6 (by decide) (by decide +kernel) dX6_keepDraft_30 ?_
    refine j_icmp_ge C 57 dX6_keepDraft_33 (by decide) (fun c4 => ?_) (fun c4 => ?_)
    · replace h := h.1 c4
      refine j_aload_n C 0 dX6_keepDraft_57 rfl 0 rfl ?_
      refine j_getI C 64 6 rfl rfl rfl in_X6_keepDraft_X6 (by decide) (by decide +kernel) dX6_keepDraft_58 ?_
      refine j_topi (fun v5 ev5 => ?_)
      replace h := h v5 ev5
      refine j_istore_n (lv' := [(1, .int v5), (0, .ref (eA E 64))]) C 1 dX6_keepDraft_61 rfl (by decide) rfl ?_
      refine j_iconst (v := (0 : Int32)) C dX6_keepDraft_62 (by decide) ?_
      refine j_istore_n (lv' := [(2, .int (0 : Int32)), (1, .int v5), (0, .ref (eA E 64))]) C 2 dX6_keepDraft_63 rfl (by decide) rfl ?_
      exact j_sub (lv' := [(0, .ref (eA E 64)), (1, .int v5), (2, .int (0 : Int32))]) [2, 1, 0] rfl h
    · replace h := h.2 c4
      refine j_aload_n C 0 dX6_keepDraft_36 rfl 0 rfl ?_
      refine j_getR C 65 64 0 rfl rfl rfl in_X6_keepDraft_X6 (by decide) (by decide +kernel) dX6_keepDraft_37 ?_
      refine j_bipush (v := (25 : Int32)) C dX6_keepDraft_40 (by decide) ?_
      refine j_iload_n C 1 dX6_keepDraft_42 rfl 1 rfl ?_
      refine j_iadd C dX6_keepDraft_43 ?_
      refine j_aload_n C 0 dX6_keepDraft_44 rfl 0 rfl ?_
      refine j_getR C 69 64 7 rfl rfl rfl in_X6_keepDraft_X6 (by decide) (by decide +kernel) dX6_keepDraft_45 ?_
      refine j_iload_n C 1 dX6_keepDraft_48 rfl 1 rfl ?_
      refine j_iald C 69 rfl dX6_keepDraft_49 h.1 ?_
      replace h := h.2
      refine j_iast C 65 rfl dX6_keepDraft_50 h.1 ?_
      replace h := h.2
      refine j_mem (fun σ6 eσ6 => ?_)
      replace h := h σ6 eσ6
      obtain ⟨v7, ev7⟩ : ∃ y : Int32, y = x1 + (1 : Int32) := ⟨_, rfl⟩
      replace h := h v7 ev7
      refine j_iinc (v := v7) (lv' := [(1, .int v7), (0, .ref (eA E 64))]) C 1 dX6_keepDraft_51 1 rfl (by rw [ev7]; rfl) (by decide) rfl ?_
      refine j_goto C 28 dX6_keepDraft_54 (by decide) ?_
      exact j_sub (lv' := [(0, .ref (eA E 64)), (1, .int v7)]) [1, 0] rfl h) (by
    intro x1 x2 σ h
    refine j_iload_n C 2 dX6_keepDraft_64 rfl 2 rfl ?_
    refine j_aload_n C 0 dX6_keepDraft_65 rfl 0 rfl ?_
    refine j_getR C 65 64 0 rfl rfl rfl in_X6_keepDraft_X6 (by decide) (by decide +kernel) dX6_keepDraft_66 ?_
    refine j_bipush (v := (24 : Int32)) C dX6_keepDraft_69 (by decide) ?_
    refine j_iald C 65 rfl dX6_keepDraft_71 (in_lit rfl) ?_
    refine j_icmp_ge C 105 dX6_keepDraft_72 (by decide) (fun c8 => ?_) (fun c8 => ?_)
    · replace h := h.1 c8
      refine j_aload_n C 0 dX6_keepDraft_105 rfl 0 rfl ?_
      refine j_getR C 67 64 2 rfl rfl rfl in_X6_keepDraft_X6 (by decide) (by decide +kernel) dX6_keepDraft_106 ?_
      refine j_iconst (v := (0 : Int32)) C dX6_keepDraft_109 (by decide) ?_
      refine j_iconst (v := (0 : Int32)) C dX6_keepDraft_110 (by decide) ?_
      refine j_zast C 67 rfl dX6_keepDraft_111 (in_lit rfl) ?_
      refine j_mem (fun σ9 eσ9 => ?_)
      replace h := h σ9 eσ9
      refine j_aload_n C 0 dX6_keepDraft_112 rfl 0 rfl ?_
      refine j_getR C 67 64 2 rfl rfl rfl in_X6_keepDraft_X6 (by decide) (by decide +kernel) dX6_keepDraft_113 ?_
      refine j_iconst (v := (1 : Int32)) C dX6_keepDraft_116 (by decide) ?_
      refine j_iconst (v := (0 : Int32)) C dX6_keepDraft_117 (by decide) ?_
      refine j_zast C 67 rfl dX6_keepDraft_118 (in_lit rfl) ?_
      refine j_mem (fun σ10 eσ10 => ?_)
      replace h := h σ10 eσ10
      exact j_vret C dX6_keepDraft_119 h
    · replace h := h.2 c8
      refine j_aload_n C 0 dX6_keepDraft_75 rfl 0 rfl ?_
      refine j_getI C 64 5 rfl rfl rfl in_X6_keepDraft_X6 (by decide) (by decide +kernel) dX6_keepDraft_76 ?_
      refine j_iload_n C 2 dX6_keepDraft_79 rfl 2 rfl ?_
      refine j_ishr C dX6_keepDraft_80 ?_
      refine j_iconst (v := (1 : Int32)) C dX6_keepDraft_81 (by decide) ?_
      refine j_iand C dX6_keepDraft_82 ?_
      refine j_if_ne C 99 dX6_keepDraft_83 (by decide) (fun c11 => ?_) (fun c11 => ?_)
      · replace h := h.1 c11
        exact j_sub (lv' := [(0, .ref (eA E 64)), (1, .int x1), (2, .int x2)]) [0, 1, 2] rfl h
      · replace h := h.2 c11
        refine j_aload_n C 0 dX6_keepDraft_86 rfl 0 rfl ?_
        refine j_getR C 65 64 0 rfl rfl rfl in_X6_keepDraft_X6 (by decide) (by decide +kernel) dX6_keepDraft_87 ?_
        refine j_bipush (v := (25 : Int32)) C dX6_keepDraft_90 (by decide) ?_
        refine j_iload_n C 1 dX6_keepDraft_92 rfl 1 rfl ?_
        refine j_iadd C dX6_keepDraft_93 ?_
        refine j_iload_n C 2 dX6_keepDraft_94 rfl 2 rfl ?_
        refine j_iast C 65 rfl dX6_keepDraft_95 h.1 ?_
        replace h := h.2
        refine j_mem (fun σ12 eσ12 => ?_)
        replace h := h σ12 eσ12
        obtain ⟨v13, ev13⟩ : ∃ y : Int32, y = x1 + (1 : Int32) := ⟨_, rfl⟩
        replace h := h v13 ev13
        refine j_iinc (v := v13) (lv' := [(1, .int v13), (0, .ref (eA E 64)), (2, .int x2)]) C 1 dX6_keepDraft_96 1 rfl (by rw [ev13]; rfl) (by decide) rfl ?_
        exact j_sub (lv' := [(0, .ref (eA E 64)), (1, .int v13), (2, .int x2)]) [1, 0, 2] rfl h) (by
    intro x1 x2 σ h
    obtain ⟨v14, ev14⟩ : ∃ y : Int32, y = x2 + (1 : Int32) := ⟨_, rfl⟩
    replace h := h v14 ev14
    refine j_iinc (v := v14) (lv' := [(2, .int v14), (0, .ref (eA E 64)), (1, .int x1)]) C 2 dX6_keepDraft_99 2 rfl (by rw [ev14]; rfl) (by decide) rfl ?_
    refine j_goto C 64 dX6_keepDraft_102 (by decide) ?_
    exact j_sub (lv' := [(0, .ref (eA E 64)), (1, .int x1), (2, .int v14)]) [1, 2, 0] rfl h)
  refine j_iconst (v := (0 : Int32)) C dX6_keepDraft_0 (by decide) ?_
  refine j_istore_n (lv' := [(1, .int (0 : Int32)), (0, .ref (eA E 64))]) C 1 dX6_keepDraft_1 rfl (by decide) rfl ?_
  exact j_sub (lv' := [(0, .ref (eA E 64)), (1, .int (0 : Int32))]) [1, 0] rfl h
def wp_X6_feed (a1 : Int32) (σ : Mem) (Q : Int32 → Mem → Prop) : Prop :=
  wp_X6_in ((a1).toInt64) (0 : Int64) (127 : Int64) σ (fun r2 σ1 => (¬ r2 = 0 → (¬ (σ1.1 64 10) = (160 : Int32) → vp_in (σ1.1 64 10) 160 ∧ (∀ σ5 : Mem, σ5 = st1 σ1 70 ((σ1.1 64 10)).toNatClampNeg a1 → ∀ σ6 : Mem, σ6 = st1 σ5 64 10 ((σ5.1 64 10) + (1 : Int32)) → Q (σ6.1 64 10) σ6)) ∧ ((σ1.1 64 10) = (160 : Int32) → Q (-3 : Int32) σ1)) ∧ (r2 = 0 → Q (-1 : Int32) σ1))
theorem in_X6_feed_X6 : ∀ w ∈ wsX60, w ∈ wsX6_feed := fun _ h => List.mem_cons_of_mem _ (List.mem_append_right _ h)
def rmX6_feed : Room := { frames := 1, cells := 0, slots := 0, locals := 25 }
theorem hdX6_feed : yX6_feed.cls = RX6 ∧ yX6_feed.cls ≠ "java/lang/invoke/MethodHandle" ∧ yX6_feed.cls ≠ "java/lang/invoke/VarHandle" ∧ (parseMethodDescriptor yX6_feed.desc).map (fun d => d.parameters.length) = some 1 := by decide +kernel
set_option maxHeartbeats 4000000 in
set_option maxRecDepth 100000 in
theorem c_X6_feed {l : Launch} {E : EE} {a1 : Int32}  {σ : Mem} {Q : Int32 → Mem → Prop} (h : wp_X6_feed a1 σ Q) : CtI l yX6_feed wsX6_feed rmX6_feed E [.ref (eA E 64), .int a1] σ Q := by
  refine metI (cc := cX6_feed) (nL := 2) (ret := (some .int)) (lv := [(0, .ref (eA E 64)), (1, .int a1)]) (by decide) rfl (Nat.le_of_ble_eq_true rfl) rfl ?_
  intro p e s m args below meth c C
  unfold wp_X6_feed at h
  refine j_iload_n C 1 dX6_feed_0 rfl 1 rfl ?_
  refine j_i2l C dX6_feed_1 rfl ?_
  refine j_lconst (v := (0 : Int64)) C dX6_feed_2 (by decide) ?_
  refine j_ldc2 C (127 : Int64) dX6_feed_3 (by decide +kernel) ?_
  refine j_callSI (As := [.long (a1).toInt64, .long (0 : Int64), .long (127 : Int64)]) (rest := []) C (c_X6_in h) (va_cwS 3 C.2.2.2.2.2.1 gX6_feed_X6_in rfl rfl rfl hdX6_in.2 ⟨Nat.le_of_ble_eq_true rfl, Nat.le_of_ble_eq_true rfl⟩) rfl rfl (Nat.le_of_ble_eq_true rfl) dX6_feed_6 (fun r2 σ1 h => ?_)
  refine j_if_ne C 14 dX6_feed_9 (by decide) (fun c3 => ?_) (fun c3 => ?_)
  · replace h := h.1 c3
    refine j_aload_n C 0 dX6_feed_14 rfl 0 rfl ?_
    refine j_getI C 64 10 rfl rfl rfl in_X6_feed_X6 (by decide) (by decide +kernel) dX6_feed_15 ?_
    refine j_sipush (v := (160 : Int32)) C dX6_feed_18 (by decide) ?_
    refine j_icmp_ne C 27 dX6_feed_21 (by decide) (fun c4 => ?_) (fun c4 => ?_)
    · replace h := h.1 c4
      refine j_aload_n C 0 dX6_feed_27 rfl 0 rfl ?_
      refine j_getR C 70 64 9 rfl rfl rfl in_X6_feed_X6 (by decide) (by decide +kernel) dX6_feed_28 ?_
      refine j_aload_n C 0 dX6_feed_31 rfl 0 rfl ?_
      refine j_getI C 64 10 rfl rfl rfl in_X6_feed_X6 (by decide) (by decide +kernel) dX6_feed_32 ?_
      refine j_iload_n C 1 dX6_feed_35 rfl 1 rfl ?_
      refine j_iast C 70 rfl dX6_feed_36 h.1 ?_
      replace h := h.2
      refine j_mem (fun σ5 eσ5 => ?_)
      replace h := h σ5 eσ5
      refine j_aload_n C 0 dX6_feed_37 rfl 0 rfl ?_
      refine j_dup C dX6_feed_38 rfl ?_
      refine j_getI C 64 10 rfl rfl rfl in_X6_feed_X6 (by decide) (by decide +kernel) dX6_feed_39 ?_
      refine j_iconst (v := (1 : Int32)) C dX6_feed_42 (by decide) ?_
      refine j_iadd C dX6_feed_43 ?_
      refine j_put C 64 10 rfl rfl rfl in_X6_feed_X6 tyX6 tyX6_ok nmX6 (by decide) (by decide +kernel) rfl rfl rfl rfl dX6_feed_44 ?_
      refine j_mem (fun σ6 eσ6 => ?_)
      replace h := h σ6 eσ6
      refine j_aload_n C 0 dX6_feed_47 rfl 0 rfl ?_
      refine j_getI C 64 10 rfl rfl rfl in_X6_feed_X6 (by decide) (by decide +kernel) dX6_feed_48 ?_
      exact j_iret C dX6_feed_51 h
    · replace h := h.2 c4
      refine j_bipush (v := (-3 : Int32)) C dX6_feed_24 (by decide) ?_
      exact j_iret C dX6_feed_26 h
  · replace h := h.2 c3
    refine j_iconst (v := (-1 : Int32)) C dX6_feed_12 (by decide) ?_
    exact j_iret C dX6_feed_13 h
def wp_X6_end (a1 : Int32) (σ : Mem) (Q : Int32 → Mem → Prop) : Prop :=
  wp_X6_in ((a1).toInt64) (0 : Int64) (((σ.1 64 10)).toInt64) σ (fun r2 σ1 => (¬ r2 = 0 → ∀ v4 : Int32, v4 = (σ1.1 64 10) → ∀ σ5 : Mem, σ5 = st1 σ1 64 10 a1 → Q v4 σ5) ∧ (r2 = 0 → Q (-1 : Int32) σ1))
theorem in_X6_end_X6 : ∀ w ∈ wsX60, w ∈ wsX6_end := fun _ h => List.mem_cons_of_mem _ (List.mem_append_right _ h)
def rmX6_end : Room := { frames := 1, cells := 0, slots := 0, locals := 25 }
theorem hdX6_end : yX6_end.cls = RX6 ∧ yX6_end.cls ≠ "java/lang/invoke/MethodHandle" ∧ yX6_end.cls ≠ "java/lang/invoke/VarHandle" ∧ (parseMethodDescriptor yX6_end.desc).map (fun d => d.parameters.length) = some 1 := by decide +kernel
set_option maxHeartbeats 4000000 in
set_option maxRecDepth 100000 in
theorem c_X6_end {l : Launch} {E : EE} {a1 : Int32}  {σ : Mem} {Q : Int32 → Mem → Prop} (h : wp_X6_end a1 σ Q) : CtI l yX6_end wsX6_end rmX6_end E [.ref (eA E 64), .int a1] σ Q := by
  refine metI (cc := cX6_end) (nL := 3) (ret := (some .int)) (lv := [(0, .ref (eA E 64)), (1, .int a1)]) (by decide) rfl (Nat.le_of_ble_eq_true rfl) rfl ?_
  intro p e s m args below meth c C
  unfold wp_X6_end at h
  refine j_iload_n C 1 dX6_end_0 rfl 1 rfl ?_
  refine j_i2l C dX6_end_1 rfl ?_
  refine j_lconst (v := (0 : Int64)) C dX6_end_2 (by decide) ?_
  refine j_aload_n C 0 dX6_end_3 rfl 0 rfl ?_
  refine j_getI C 64 10 rfl rfl rfl in_X6_end_X6 (by decide) (by decide +kernel) dX6_end_4 ?_
  refine j_i2l C dX6_end_7 rfl ?_
  refine j_callSI (As := [.long (a1).toInt64, .long (0 : Int64), .long ((σ.1 64 10)).toInt64]) (rest := []) C (c_X6_in h) (va_cwS 3 C.2.2.2.2.2.1 gX6_end_X6_in rfl rfl rfl hdX6_in.2 ⟨Nat.le_of_ble_eq_true rfl, Nat.le_of_ble_eq_true rfl⟩) rfl rfl (Nat.le_of_ble_eq_true rfl) dX6_end_8 (fun r2 σ1 h => ?_)
  refine j_if_ne C 16 dX6_end_11 (by decide) (fun c3 => ?_) (fun c3 => ?_)
  · replace h := h.1 c3
    refine j_aload_n C 0 dX6_end_16 rfl 0 rfl ?_
    refine j_getI C 64 10 rfl rfl rfl in_X6_end_X6 (by decide) (by decide +kernel) dX6_end_17 ?_
    refine j_topi (fun v4 ev4 => ?_)
    replace h := h v4 ev4
    refine j_istore_n (lv' := [(2, .int v4), (0, .ref (eA E 64)), (1, .int a1)]) C 2 dX6_end_20 rfl (by decide) rfl ?_
    refine j_aload_n C 0 dX6_end_21 rfl 1 rfl ?_
    refine j_iload_n C 1 dX6_end_22 rfl 2 rfl ?_
    refine j_put C 64 10 rfl rfl rfl in_X6_end_X6 tyX6 tyX6_ok nmX6 (by decide) (by decide +kernel) rfl rfl rfl rfl dX6_end_23 ?_
    refine j_mem (fun σ5 eσ5 => ?_)
    replace h := h σ5 eσ5
    refine j_iload_n C 2 dX6_end_26 rfl 0 rfl ?_
    exact j_iret C dX6_end_27 h
  · replace h := h.2 c3
    refine j_iconst (v := (-1 : Int32)) C dX6_end_14 (by decide) ?_
    exact j_iret C dX6_end_15 h
def wp_X6_needs (a1 : Int32) (a2 : Int32) (σ : Mem) (Q : Mem → Prop) : Prop :=
  (¬ a1 = 0 → Q σ) ∧ (a1 = 0 → (¬ (σ.1 64 15) = 0 → Q σ) ∧ ((σ.1 64 15) = 0 → ∀ σ3 : Mem, σ3 = st1 σ 64 15 a2 → ∀ σ4 : Mem, σ4 = st1 σ3 64 16 (σ3.1 64 12) → Q σ4))
theorem in_X6_needs_X6 : ∀ w ∈ wsX60, w ∈ wsX6_needs := fun _ h => List.mem_cons_of_mem _ (List.mem_append_right _ h)
def rmX6_needs : Room := { frames := 0, cells := 0, slots := 0, locals := 0 }
theorem hdX6_needs : yX6_needs.cls = RX6 ∧ yX6_needs.cls ≠ "java/lang/invoke/MethodHandle" ∧ yX6_needs.cls ≠ "java/lang/invoke/VarHandle" ∧ (parseMethodDescriptor yX6_needs.desc).map (fun d => d.parameters.length) = some 2 := by decide +kernel
set_option maxHeartbeats 4000000 in
set_option maxRecDepth 100000 in
theorem c_X6_needs {l : Launch} {E : EE} {a1 : Int32} {a2 : Int32}  {σ : Mem} {Q : Mem → Prop} (h : wp_X6_needs a1 a2 σ Q) : CtV l yX6_needs wsX6_needs rmX6_needs E [.ref (eA E 64), .int a1, .int a2] σ Q := by
  refine metV (cc := cX6_needs) (nL := 3) (ret := none) (lv := [(0, .ref (eA E 64)), (1, .int a1), (2, .int a2)]) (by decide) rfl (Nat.le_of_ble_eq_true rfl) rfl ?_
  intro p e s m args below meth c C
  unfold wp_X6_needs at h
  refine j_iload_n C 1 dX6_needs_0 rfl 1 rfl ?_
  refine j_if_ne C 24 dX6_needs_1 (by decide) (fun c1 => ?_) (fun c1 => ?_)
  · replace h := h.1 c1
    exact j_vret C dX6_needs_24 h
  · replace h := h.2 c1
    refine j_aload_n C 0 dX6_needs_4 rfl 0 rfl ?_
    refine j_getI C 64 15 rfl rfl rfl in_X6_needs_X6 (by decide) (by decide +kernel) dX6_needs_5 ?_
    refine j_if_ne C 24 dX6_needs_8 (by decide) (fun c2 => ?_) (fun c2 => ?_)
    · replace h := h.1 c2
      exact j_vret C dX6_needs_24 h
    · replace h := h.2 c2
      refine j_aload_n C 0 dX6_needs_11 rfl 0 rfl ?_
      refine j_iload_n C 2 dX6_needs_12 rfl 2 rfl ?_
      refine j_put C 64 15 rfl rfl rfl in_X6_needs_X6 tyX6 tyX6_ok nmX6 (by decide) (by decide +kernel) rfl rfl rfl rfl dX6_needs_13 ?_
      refine j_mem (fun σ3 eσ3 => ?_)
      replace h := h σ3 eσ3
      refine j_aload_n C 0 dX6_needs_16 rfl 0 rfl ?_
      refine j_aload_n C 0 dX6_needs_17 rfl 0 rfl ?_
      refine j_getI C 64 12 rfl rfl rfl in_X6_needs_X6 (by decide) (by decide +kernel) dX6_needs_18 ?_
      refine j_put C 64 16 rfl rfl rfl in_X6_needs_X6 tyX6 tyX6_ok nmX6 (by decide) (by decide +kernel) rfl rfl rfl rfl dX6_needs_21 ?_
      refine j_mem (fun σ4 eσ4 => ?_)
      replace h := h σ4 eσ4
      exact j_vret C dX6_needs_24 h
def wp_X6_byteAt (a1 : Int32) (σ : Mem) (Q : Int32 → Mem → Prop) : Prop :=
  ((σ.1 64 10) ≤ a1 → Q (-1 : Int32) σ) ∧ (¬ (σ.1 64 10) ≤ a1 → vp_in a1 160 ∧ (Q (σ.1 70 (a1).toNatClampNeg) σ))
theorem in_X6_byteAt_X6 : ∀ w ∈ wsX60, w ∈ wsX6_byteAt := fun _ h => List.mem_cons_of_mem _ (List.mem_append_right _ h)
def rmX6_byteAt : Room := { frames := 0, cells := 0, slots := 0, locals := 0 }
theorem hdX6_byteAt : yX6_byteAt.cls = RX6 ∧ yX6_byteAt.cls ≠ "java/lang/invoke/MethodHandle" ∧ yX6_byteAt.cls ≠ "java/lang/invoke/VarHandle" ∧ (parseMethodDescriptor yX6_byteAt.desc).map (fun d => d.parameters.length) = some 1 := by decide +kernel
set_option maxHeartbeats 4000000 in
set_option maxRecDepth 100000 in
theorem c_X6_byteAt {l : Launch} {E : EE} {a1 : Int32}  {σ : Mem} {Q : Int32 → Mem → Prop} (h : wp_X6_byteAt a1 σ Q) : CtI l yX6_byteAt wsX6_byteAt rmX6_byteAt E [.ref (eA E 64), .int a1] σ Q := by
  refine metI (cc := cX6_byteAt) (nL := 2) (ret := (some .int)) (lv := [(0, .ref (eA E 64)), (1, .int a1)]) (by decide) rfl (Nat.le_of_ble_eq_true rfl) rfl ?_
  intro p e s m args below meth c C
  unfold wp_X6_byteAt at h
  refine j_iload_n C 1 dX6_byteAt_0 rfl 1 rfl ?_
  refine j_aload_n C 0 dX6_byteAt_1 rfl 0 rfl ?_
  refine j_getI C 64 10 rfl rfl rfl in_X6_byteAt_X6 (by decide) (by decide +kernel) dX6_byteAt_2 ?_
  refine j_icmp_ge C 17 dX6_byteAt_5 (by decide) (fun c1 => ?_) (fun c1 => ?_)
  · replace h := h.1 c1
    refine j_iconst (v := (-1 : Int32)) C dX6_byteAt_17 (by decide) ?_
    exact j_iret C dX6_byteAt_18 h
  · replace h := h.2 c1
    refine j_aload_n C 0 dX6_byteAt_8 rfl 0 rfl ?_
    refine j_getR C 70 64 9 rfl rfl rfl in_X6_byteAt_X6 (by decide) (by decide +kernel) dX6_byteAt_9 ?_
    refine j_iload_n C 1 dX6_byteAt_12 rfl 1 rfl ?_
    refine j_iald C 70 rfl dX6_byteAt_13 h.1 ?_
    replace h := h.2
    refine j_goto C 18 dX6_byteAt_14 (by decide) ?_
    exact j_iret C dX6_byteAt_18 h
def wp_X6_is (a1 : Int32) (a2 : Int32) (a3 : Int32) (a4 : Int32) (a5 : Int32) (σ : Mem) (Q : Int32 → Mem → Prop) : Prop :=
  (¬ ((σ.1 64 11) - (σ.1 64 12)) = a1 → Q (0 : Int32) σ) ∧ (((σ.1 64 11) - (σ.1 64 12)) = a1 → wp_X6_byteAt ((σ.1 64 12)) σ (fun r3 σ2 => (¬ r3 = a2 → Q (0 : Int32) σ2) ∧ (r3 = a2 → wp_X6_byteAt (((σ2.1 64 12) + (1 : Int32))) σ2 (fun r6 σ5 => (¬ r6 = a3 → Q (0 : Int32) σ5) ∧ (r6 = a3 → wp_X6_byteAt (((σ5.1 64 12) + (2 : Int32))) σ5 (fun r9 σ8 => (¬ r9 = a4 → Q (0 : Int32) σ8) ∧ (r9 = a4 → wp_X6_byteAt (((σ8.1 64 12) + (3 : Int32))) σ8 (fun r12 σ11 => (¬ r12 = a5 → Q (0 : Int32) σ11) ∧ (r12 = a5 → Q (1 : Int32) σ11)))))))))
theorem in_X6_is_X6 : ∀ w ∈ wsX60, w ∈ wsX6_is := fun _ h => List.mem_cons_of_mem _ (List.mem_append_right _ h)
def rmX6_is : Room := { frames := 1, cells := 0, slots := 0, locals := 21 }
theorem hdX6_is : yX6_is.cls = RX6 ∧ yX6_is.cls ≠ "java/lang/invoke/MethodHandle" ∧ yX6_is.cls ≠ "java/lang/invoke/VarHandle" ∧ (parseMethodDescriptor yX6_is.desc).map (fun d => d.parameters.length) = some 5 := by decide +kernel
set_option maxHeartbeats 4000000 in
set_option maxRecDepth 100000 in
theorem c_X6_is {l : Launch} {E : EE} {a1 : Int32} {a2 : Int32} {a3 : Int32} {a4 : Int32} {a5 : Int32}  {σ : Mem} {Q : Int32 → Mem → Prop} (h : wp_X6_is a1 a2 a3 a4 a5 σ Q) : CtI l yX6_is wsX6_is rmX6_is E [.ref (eA E 64), .int a1, .int a2, .int a3, .int a4, .int a5] σ Q := by
  refine metI (cc := cX6_is) (nL := 6) (ret := (some .boolean)) (lv := [(0, .ref (eA E 64)), (1, .int a1), (2, .int a2), (3, .int a3), (4, .int a4), (5, .int a5)]) (by decide) rfl (Nat.le_of_ble_eq_true rfl) rfl ?_
  intro p e s m args below meth c C
  unfold wp_X6_is at h
  refine j_aload_n C 0 dX6_is_0 rfl 0 rfl ?_
  refine j_getI C 64 11 rfl rfl rfl in_X6_is_X6 (by decide) (by decide +kernel) dX6_is_1 ?_
  refine j_aload_n C 0 dX6_is_4 rfl 0 rfl ?_
  refine j_getI C 64 12 rfl rfl rfl in_X6_is_X6 (by decide) (by decide +kernel) dX6_is_5 ?_
  refine j_isub C dX6_is_8 ?_
  refine j_iload_n C 1 dX6_is_9 rfl 1 rfl ?_
  refine j_icmp_ne C 73 dX6_is_10 (by decide) (fun c1 => ?_) (fun c1 => ?_)
  · replace h := h.1 c1
    refine j_iconst (v := (0 : Int32)) C dX6_is_73 (by decide) ?_
    exact j_zret C dX6_is_74 (Or.inl rfl) h
  · replace h := h.2 c1
    refine j_aload_n C 0 dX6_is_13 rfl 0 rfl ?_
    refine j_aload_n C 0 dX6_is_14 rfl 0 rfl ?_
    refine j_getI C 64 12 rfl rfl rfl in_X6_is_X6 (by decide) (by decide +kernel) dX6_is_15 ?_
    refine j_callVI (As := [.int (σ.1 64 12)]) (rest := []) C 64 (c_X6_byteAt h) (cwV 1 C.2.2.2.2.2.1 gX6_is_X6_byteAt rfl rfl rfl hdX6_byteAt ⟨Nat.le_of_ble_eq_true rfl, Nat.le_of_ble_eq_true rfl⟩) rfl rfl rfl rfl (Nat.le_of_ble_eq_true rfl) dX6_is_18 (fun r3 σ2 h => ?_)
    refine j_iload_n C 2 dX6_is_21 rfl 2 rfl ?_
    refine j_icmp_ne C 73 dX6_is_22 (by decide) (fun c4 => ?_) (fun c4 => ?_)
    · replace h := h.1 c4
      refine j_iconst (v := (0 : Int32)) C dX6_is_73 (by decide) ?_
      exact j_zret C dX6_is_74 (Or.inl rfl) h
    · replace h := h.2 c4
      refine j_aload_n C 0 dX6_is_25 rfl 0 rfl ?_
      refine j_aload_n C 0 dX6_is_26 rfl 0 rfl ?_
      refine j_getI C 64 12 rfl rfl rfl in_X6_is_X6 (by decide) (by decide +kernel) dX6_is_27 ?_
      refine j_iconst (v := (1 : Int32)) C dX6_is_30 (by decide) ?_
      refine j_iadd C dX6_is_31 ?_
      refine j_callVI (As := [.int ((σ2.1 64 12) + (1 : Int32))]) (rest := []) C 64 (c_X6_byteAt h) (cwV 1 C.2.2.2.2.2.1 gX6_is_X6_byteAt rfl rfl rfl hdX6_byteAt ⟨Nat.le_of_ble_eq_true rfl, Nat.le_of_ble_eq_true rfl⟩) rfl rfl rfl rfl (Nat.le_of_ble_eq_true rfl) dX6_is_32 (fun r6 σ5 h => ?_)
      refine j_iload_n C 3 dX6_is_35 rfl 3 rfl ?_
      refine j_icmp_ne C 73 dX6_is_36 (by decide) (fun c7 => ?_) (fun c7 => ?_)
      · replace h := h.1 c7
        refine j_iconst (v := (0 : Int32)) C dX6_is_73 (by decide) ?_
        exact j_zret C dX6_is_74 (Or.inl rfl) h
      · replace h := h.2 c7
        refine j_aload_n C 0 dX6_is_39 rfl 0 rfl ?_
        refine j_aload_n C 0 dX6_is_40 rfl 0 rfl ?_
        refine j_getI C 64 12 rfl rfl rfl in_X6_is_X6 (by decide) (by decide +kernel) dX6_is_41 ?_
        refine j_iconst (v := (2 : Int32)) C dX6_is_44 (by decide) ?_
        refine j_iadd C dX6_is_45 ?_
        refine j_callVI (As := [.int ((σ5.1 64 12) + (2 : Int32))]) (rest := []) C 64 (c_X6_byteAt h) (cwV 1 C.2.2.2.2.2.1 gX6_is_X6_byteAt rfl rfl rfl hdX6_byteAt ⟨Nat.le_of_ble_eq_true rfl, Nat.le_of_ble_eq_true rfl⟩) rfl rfl rfl rfl (Nat.le_of_ble_eq_true rfl) dX6_is_46 (fun r9 σ8 h => ?_)
        refine j_iload C 4 dX6_is_49 4 rfl ?_
        refine j_icmp_ne C 73 dX6_is_51 (by decide) (fun c10 => ?_) (fun c10 => ?_)
        · replace h := h.1 c10
          refine j_iconst (v := (0 : Int32)) C dX6_is_73 (by decide) ?_
          exact j_zret C dX6_is_74 (Or.inl rfl) h
        · replace h := h.2 c10
          refine j_aload_n C 0 dX6_is_54 rfl 0 rfl ?_
          refine j_aload_n C 0 dX6_is_55 rfl 0 rfl ?_
          refine j_getI C 64 12 rfl rfl rfl in_X6_is_X6 (by decide) (by decide +kernel) dX6_is_56 ?_
          refine j_iconst (v := (3 : Int32)) C dX6_is_59 (by decide) ?_
          refine j_iadd C dX6_is_60 ?_
          refine j_callVI (As := [.int ((σ8.1 64 12) + (3 : Int32))]) (rest := []) C 64 (c_X6_byteAt h) (cwV 1 C.2.2.2.2.2.1 gX6_is_X6_byteAt rfl rfl rfl hdX6_byteAt ⟨Nat.le_of_ble_eq_true rfl, Nat.le_of_ble_eq_true rfl⟩) rfl rfl rfl rfl (Nat.le_of_ble_eq_true rfl) dX6_is_61 (fun r12 σ11 h => ?_)
          refine j_iload C 5 dX6_is_64 5 rfl ?_
          refine j_icmp_ne C 73 dX6_is_66 (by decide) (fun c13 => ?_) (fun c13 => ?_)
          · replace h := h.1 c13
            refine j_iconst (v := (0 : Int32)) C dX6_is_73 (by decide) ?_
            exact j_zret C dX6_is_74 (Or.inl rfl) h
          · replace h := h.2 c13
            refine j_iconst (v := (1 : Int32)) C dX6_is_69 (by decide) ?_
            refine j_goto C 74 dX6_is_70 (by decide) ?_
            exact j_zret C dX6_is_74 (Or.inr rfl) h
def wp_X6_ends (a1 : Int32) (a2 : Int32) (a3 : Int32) (σ : Mem) (Q : Int32 → Mem → Prop) : Prop :=
  ∀ (P32 : Mem → Prop) (P51 : Mem → Prop),
  (∀ (σ : Mem), ((a3 = 0 → P51 σ) ∧ (¬ a3 = 0 → wp_X6_byteAt (((σ.1 64 12) + (6 : Int32))) σ (fun r3 σ2 => (¬ r3 = a3 → Q (0 : Int32) σ2) ∧ (r3 = a3 → P51 σ2)))) → P32 σ) →
  (∀ (σ : Mem), (Q (1 : Int32) σ) → P51 σ) →
  wp_X6_byteAt (((σ.1 64 12) + (4 : Int32))) σ (fun r6 σ5 => (¬ r6 = a1 → Q (0 : Int32) σ5) ∧ (r6 = a1 → (a2 = 0 → P32 σ5) ∧ (¬ a2 = 0 → wp_X6_byteAt (((σ5.1 64 12) + (5 : Int32))) σ5 (fun r10 σ9 => (¬ r10 = a2 → Q (0 : Int32) σ9) ∧ (r10 = a2 → P32 σ9)))))
theorem in_X6_ends_X6 : ∀ w ∈ wsX60, w ∈ wsX6_ends := fun _ h => List.mem_cons_of_mem _ (List.mem_append_right _ h)
def rmX6_ends : Room := { frames := 1, cells := 0, slots := 0, locals := 21 }
theorem hdX6_ends : yX6_ends.cls = RX6 ∧ yX6_ends.cls ≠ "java/lang/invoke/MethodHandle" ∧ yX6_ends.cls ≠ "java/lang/invoke/VarHandle" ∧ (parseMethodDescriptor yX6_ends.desc).map (fun d => d.parameters.length) = some 3 := by decide +kernel
set_option maxHeartbeats 4000000 in
set_option maxRecDepth 100000 in
theorem c_X6_ends {l : Launch} {E : EE} {a1 : Int32} {a2 : Int32} {a3 : Int32}  {σ : Mem} {Q : Int32 → Mem → Prop} (h : wp_X6_ends a1 a2 a3 σ Q) : CtI l yX6_ends wsX6_ends rmX6_ends E [.ref (eA E 64), .int a1, .int a2, .int a3] σ Q := by
  refine metI (cc := cX6_ends) (nL := 4) (ret := (some .boolean)) (lv := [(0, .ref (eA E 64)), (1, .int a1), (2, .int a2), (3, .int a3)]) (by decide) rfl (Nat.le_of_ble_eq_true rfl) rfl ?_
  intro p e s m args below meth c C
  unfold wp_X6_ends at h
  replace h := h (fun (σ : Mem) => J E p l e rmX6_ends s m args below meth c (QI E below args s Q) 4 32 [(0, .ref (eA E 64)), (3, .int a3)] [] σ) (fun (σ : Mem) => J E p l e rmX6_ends s m args below meth c (QI E below args s Q) 4 51 [] [] σ) (by
    intro σ h
    refine j_iload_n C 3 dX6_ends_32 rfl 1 rfl ?_
    refine j_if_eq C 51 dX6_ends_33 (by decide) (fun c1 => ?_) (fun c1 => ?_)
    · replace h := h.1 c1
      exact j_sub (lv' := []) [] rfl h
    · replace h := h.2 c1
      refine j_aload_n C 0 dX6_ends_36 rfl 0 rfl ?_
      refine j_aload_n C 0 dX6_ends_37 rfl 0 rfl ?_
      refine j_getI C 64 12 rfl rfl rfl in_X6_ends_X6 (by decide) (by decide +kernel) dX6_ends_38 ?_
      refine j_bipush (v := (6 : Int32)) C dX6_ends_41 (by decide) ?_
      refine j_iadd C dX6_ends_43 ?_
      refine j_callVI (As := [.int ((σ.1 64 12) + (6 : Int32))]) (rest := []) C 64 (c_X6_byteAt h) (cwV 1 C.2.2.2.2.2.1 gX6_ends_X6_byteAt rfl rfl rfl hdX6_byteAt ⟨Nat.le_of_ble_eq_true rfl, Nat.le_of_ble_eq_true rfl⟩) rfl rfl rfl rfl (Nat.le_of_ble_eq_true rfl) dX6_ends_44 (fun r3 σ2 h => ?_)
      refine j_iload_n C 3 dX6_ends_47 rfl 1 rfl ?_
      refine j_icmp_ne C 55 dX6_ends_48 (by decide) (fun c4 => ?_) (fun c4 => ?_)
      · replace h := h.1 c4
        refine j_iconst (v := (0 : Int32)) C dX6_ends_55 (by decide) ?_
        exact j_zret C dX6_ends_56 (Or.inl rfl) h
      · replace h := h.2 c4
        exact j_sub (lv' := []) [] rfl h) (by
    intro σ h
    refine j_iconst (v := (1 : Int32)) C dX6_ends_51 (by decide) ?_
    refine j_goto C 56 dX6_ends_52 (by decide) ?_
    exact j_zret C dX6_ends_56 (Or.inr rfl) h)
  refine j_aload_n C 0 dX6_ends_0 rfl 0 rfl ?_
  refine j_aload_n C 0 dX6_ends_1 rfl 0 rfl ?_
  refine j_getI C 64 12 rfl rfl rfl in_X6_ends_X6 (by decide) (by decide +kernel) dX6_ends_2 ?_
  refine j_iconst (v := (4 : Int32)) C dX6_ends_5 (by decide) ?_
  refine j_iadd C dX6_ends_6 ?_
  refine j_callVI (As := [.int ((σ.1 64 12) + (4 : Int32))]) (rest := []) C 64 (c_X6_byteAt h) (cwV 1 C.2.2.2.2.2.1 gX6_ends_X6_byteAt rfl rfl rfl hdX6_byteAt ⟨Nat.le_of_ble_eq_true rfl, Nat.le_of_ble_eq_true rfl⟩) rfl rfl rfl rfl (Nat.le_of_ble_eq_true rfl) dX6_ends_7 (fun r6 σ5 h => ?_)
  refine j_iload_n C 1 dX6_ends_10 rfl 1 rfl ?_
  refine j_icmp_ne C 55 dX6_ends_11 (by decide) (fun c7 => ?_) (fun c7 => ?_)
  · replace h := h.1 c7
    refine j_iconst (v := (0 : Int32)) C dX6_ends_55 (by decide) ?_
    exact j_zret C dX6_ends_56 (Or.inl rfl) h
  · replace h := h.2 c7
    refine j_iload_n C 2 dX6_ends_14 rfl 2 rfl ?_
    refine j_if_eq C 32 dX6_ends_15 (by decide) (fun c8 => ?_) (fun c8 => ?_)
    · replace h := h.1 c8
      exact j_sub (lv' := [(0, .ref (eA E 64)), (3, .int a3)]) [0, 3] rfl h
    · replace h := h.2 c8
      refine j_aload_n C 0 dX6_ends_18 rfl 0 rfl ?_
      refine j_aload_n C 0 dX6_ends_19 rfl 0 rfl ?_
      refine j_getI C 64 12 rfl rfl rfl in_X6_ends_X6 (by decide) (by decide +kernel) dX6_ends_20 ?_
      refine j_iconst (v := (5 : Int32)) C dX6_ends_23 (by decide) ?_
      refine j_iadd C dX6_ends_24 ?_
      refine j_callVI (As := [.int ((σ5.1 64 12) + (5 : Int32))]) (rest := []) C 64 (c_X6_byteAt h) (cwV 1 C.2.2.2.2.2.1 gX6_ends_X6_byteAt rfl rfl rfl hdX6_byteAt ⟨Nat.le_of_ble_eq_true rfl, Nat.le_of_ble_eq_true rfl⟩) rfl rfl rfl rfl (Nat.le_of_ble_eq_true rfl) dX6_ends_25 (fun r10 σ9 h => ?_)
      refine j_iload_n C 2 dX6_ends_28 rfl 2 rfl ?_
      refine j_icmp_ne C 55 dX6_ends_29 (by decide) (fun c11 => ?_) (fun c11 => ?_)
      · replace h := h.1 c11
        refine j_iconst (v := (0 : Int32)) C dX6_ends_55 (by decide) ?_
        exact j_zret C dX6_ends_56 (Or.inl rfl) h
      · replace h := h.2 c11
        exact j_sub (lv' := [(0, .ref (eA E 64)), (3, .int a3)]) [0, 3] rfl h
def wp_X6_kindNow (σ : Mem) (Q : Int32 → Mem → Prop) : Prop :=
  ∀ (P29 : Mem → Prop) (P81 : Mem → Prop),
  (∀ (σ : Mem), (wp_X6_is (4 : Int32) (116 : Int32) (97 : Int32) (108 : Int32) (108 : Int32) σ (fun r2 σ1 => (r2 = 0 → wp_X6_is (7 : Int32) (115 : Int32) (116 : Int32) (111 : Int32) (111 : Int32) σ1 (fun r5 σ4 => (r5 = 0 → P81 σ4) ∧ (¬ r5 = 0 → wp_X6_ends (112 : Int32) (101 : Int32) (100 : Int32) σ4 (fun r8 σ7 => (r8 = 0 → P81 σ7) ∧ (¬ r8 = 0 → Q (2 : Int32) σ7))))) ∧ (¬ r2 = 0 → Q (1 : Int32) σ1))) → P29 σ) →
  (∀ (σ : Mem), (wp_X6_is (5 : Int32) (115 : Int32) (116 : Int32) (111 : Int32) (111 : Int32) σ (fun r11 σ10 => (r11 = 0 → Q (-4 : Int32) σ10) ∧ (¬ r11 = 0 → wp_X6_ends (108 : Int32) (0 : Int32) (0 : Int32) σ10 (fun r14 σ13 => (r14 = 0 → Q (-4 : Int32) σ13) ∧ (¬ r14 = 0 → Q (3 : Int32) σ13))))) → P81 σ) →
  wp_X6_is (5 : Int32) (112 : Int32) (108 : Int32) (97 : Int32) (105 : Int32) σ (fun r17 σ16 => (r17 = 0 → P29 σ16) ∧ (¬ r17 = 0 → wp_X6_ends (110 : Int32) (0 : Int32) (0 : Int32) σ16 (fun r20 σ19 => (r20 = 0 → P29 σ19) ∧ (¬ r20 = 0 → Q (0 : Int32) σ19))))
def rmX6_kindNow : Room := { frames := 2, cells := 0, slots := 0, locals := 46 }
theorem hdX6_kindNow : yX6_kindNow.cls = RX6 ∧ yX6_kindNow.cls ≠ "java/lang/invoke/MethodHandle" ∧ yX6_kindNow.cls ≠ "java/lang/invoke/VarHandle" ∧ (parseMethodDescriptor yX6_kindNow.desc).map (fun d => d.parameters.length) = some 0 := by decide +kernel
set_option maxHeartbeats 4000000 in
set_option maxRecDepth 100000 in
theorem c_X6_kindNow {l : Launch} {E : EE}   {σ : Mem} {Q : Int32 → Mem → Prop} (h : wp_X6_kindNow  σ Q) : CtI l yX6_kindNow wsX6_kindNow rmX6_kindNow E [.ref (eA E 64)] σ Q := by
  refine metI (cc := cX6_kindNow) (nL := 1) (ret := (some .int)) (lv := [(0, .ref (eA E 64))]) (by decide) rfl (Nat.le_of_ble_eq_true rfl) rfl ?_
  intro p e s m args below meth c C
  unfold wp_X6_kindNow at h
  replace h := h (fun (σ : Mem) => J E p l e rmX6_kindNow s m args below meth c (QI E below args s Q) 1 29 [(0, .ref (eA E 64))] [] σ) (fun (σ : Mem) => J E p l e rmX6_kindNow s m args below meth c (QI E below args s Q) 1 81 [(0, .ref (eA E 64))] [] σ) (by
    intro σ h
    refine j_aload_n C 0 dX6_kindNow_29 rfl 0 rfl ?_
    refine j_iconst (v := (4 : Int32)) C dX6_kindNow_30 (by decide) ?_
    refine j_bipush (v := (116 : Int32)) C dX6_kindNow_31 (by decide) ?_
    refine j_bipush (v := (97 : Int32)) C dX6_kindNow_33 (by decide) ?_
    refine j_bipush (v := (108 : Int32)) C dX6_kindNow_35 (by decide) ?_
    refine j_bipush (v := (108 : Int32)) C dX6_kindNow_37 (by decide) ?_
    refine j_callVI (As := [.int (4 : Int32), .int (116 : Int32), .int (97 : Int32), .int (108 : Int32), .int (108 : Int32)]) (rest := []) C 64 (c_X6_is h) (cwV 5 C.2.2.2.2.2.1 gX6_kindNow_X6_is rfl rfl rfl hdX6_is ⟨Nat.le_of_ble_eq_true rfl, Nat.le_of_ble_eq_true rfl⟩) rfl rfl rfl rfl (Nat.le_of_ble_eq_true rfl) dX6_kindNow_39 (fun r2 σ1 h => ?_)
    refine j_if_eq C 47 dX6_kindNow_42 (by decide) (fun c3 => ?_) (fun c3 => ?_)
    · replace h := h.1 c3
      refine j_aload_n C 0 dX6_kindNow_47 rfl 0 rfl ?_
      refine j_bipush (v := (7 : Int32)) C dX6_kindNow_48 (by decide) ?_
      refine j_bipush (v := (115 : Int32)) C dX6_kindNow_50 (by decide) ?_
      refine j_bipush (v := (116 : Int32)) C dX6_kindNow_52 (by decide) ?_
      refine j_bipush (v := (111 : Int32)) C dX6_kindNow_54 (by decide) ?_
      refine j_bipush (v := (111 : Int32)) C dX6_kindNow_56 (by decide) ?_
      refine j_callVI (As := [.int (7 : Int32), .int (115 : Int32), .int (116 : Int32), .int (111 : Int32), .int (111 : Int32)]) (rest := []) C 64 (c_X6_is h) (cwV 5 C.2.2.2.2.2.1 gX6_kindNow_X6_is rfl rfl rfl hdX6_is ⟨Nat.le_of_ble_eq_true rfl, Nat.le_of_ble_eq_true rfl⟩) rfl rfl rfl rfl (Nat.le_of_ble_eq_true rfl) dX6_kindNow_58 (fun r5 σ4 h => ?_)
      refine j_if_eq C 81 dX6_kindNow_61 (by decide) (fun c6 => ?_) (fun c6 => ?_)
      · replace h := h.1 c6
        exact j_sub (lv' := [(0, .ref (eA E 64))]) [0] rfl h
      · replace h := h.2 c6
        refine j_aload_n C 0 dX6_kindNow_64 rfl 0 rfl ?_
        refine j_bipush (v := (112 : Int32)) C dX6_kindNow_65 (by decide) ?_
        refine j_bipush (v := (101 : Int32)) C dX6_kindNow_67 (by decide) ?_
        refine j_bipush (v := (100 : Int32)) C dX6_kindNow_69 (by decide) ?_
        refine j_callVI (As := [.int (112 : Int32), .int (101 : Int32), .int (100 : Int32)]) (rest := []) C 64 (c_X6_ends h) (cwV 3 C.2.2.2.2.2.1 gX6_kindNow_X6_ends rfl rfl rfl hdX6_ends ⟨Nat.le_of_ble_eq_true rfl, Nat.le_of_ble_eq_true rfl⟩) rfl rfl rfl rfl (Nat.le_of_ble_eq_true rfl) dX6_kindNow_71 (fun r8 σ7 h => ?_)
        refine j_if_eq C 81 dX6_kindNow_74 (by decide) (fun c9 => ?_) (fun c9 => ?_)
        · replace h := h.1 c9
          exact j_sub (lv' := [(0, .ref (eA E 64))]) [0] rfl h
        · replace h := h.2 c9
          refine j_iconst (v := (2 : Int32)) C dX6_kindNow_77 (by decide) ?_
          refine j_goto C 114 dX6_kindNow_78 (by decide) ?_
          exact j_iret C dX6_kindNow_114 h
    · replace h := h.2 c3
      refine j_iconst (v := (1 : Int32)) C dX6_kindNow_45 (by decide) ?_
      exact j_iret C dX6_kindNow_46 h) (by
    intro σ h
    refine j_aload_n C 0 dX6_kindNow_81 rfl 0 rfl ?_
    refine j_iconst (v := (5 : Int32)) C dX6_kindNow_82 (by decide) ?_
    refine j_bipush (v := (115 : Int32)) C dX6_kindNow_83 (by decide) ?_
    refine j_bipush (v := (116 : Int32)) C dX6_kindNow_85 (by decide) ?_
    refine j_bipush (v := (111 : Int32)) C dX6_kindNow_87 (by decide) ?_
    refine j_bipush (v := (111 : Int32)) C dX6_kindNow_89 (by decide) ?_
    refine j_callVI (As := [.int (5 : Int32), .int (115 : Int32), .int (116 : Int32), .int (111 : Int32), .int (111 : Int32)]) (rest := []) C 64 (c_X6_is h) (cwV 5 C.2.2.2.2.2.1 gX6_kindNow_X6_is rfl rfl rfl hdX6_is ⟨Nat.le_of_ble_eq_true rfl, Nat.le_of_ble_eq_true rfl⟩) rfl rfl rfl rfl (Nat.le_of_ble_eq_true rfl) dX6_kindNow_91 (fun r11 σ10 h => ?_)
    refine j_if_eq C 112 dX6_kindNow_94 (by decide) (fun c12 => ?_) (fun c12 => ?_)
    · replace h := h.1 c12
      refine j_bipush (v := (-4 : Int32)) C dX6_kindNow_112 (by decide) ?_
      exact j_iret C dX6_kindNow_114 h
    · replace h := h.2 c12
      refine j_aload_n C 0 dX6_kindNow_97 rfl 0 rfl ?_
      refine j_bipush (v := (108 : Int32)) C dX6_kindNow_98 (by decide) ?_
      refine j_iconst (v := (0 : Int32)) C dX6_kindNow_100 (by decide) ?_
      refine j_iconst (v := (0 : Int32)) C dX6_kindNow_101 (by decide) ?_
      refine j_callVI (As := [.int (108 : Int32), .int (0 : Int32), .int (0 : Int32)]) (rest := []) C 64 (c_X6_ends h) (cwV 3 C.2.2.2.2.2.1 gX6_kindNow_X6_ends rfl rfl rfl hdX6_ends ⟨Nat.le_of_ble_eq_true rfl, Nat.le_of_ble_eq_true rfl⟩) rfl rfl rfl rfl (Nat.le_of_ble_eq_true rfl) dX6_kindNow_102 (fun r14 σ13 h => ?_)
      refine j_if_eq C 112 dX6_kindNow_105 (by decide) (fun c15 => ?_) (fun c15 => ?_)
      · replace h := h.1 c15
        refine j_bipush (v := (-4 : Int32)) C dX6_kindNow_112 (by decide) ?_
        exact j_iret C dX6_kindNow_114 h
      · replace h := h.2 c15
        refine j_iconst (v := (3 : Int32)) C dX6_kindNow_108 (by decide) ?_
        refine j_goto C 114 dX6_kindNow_109 (by decide) ?_
        exact j_iret C dX6_kindNow_114 h)
  refine j_aload_n C 0 dX6_kindNow_0 rfl 0 rfl ?_
  refine j_iconst (v := (5 : Int32)) C dX6_kindNow_1 (by decide) ?_
  refine j_bipush (v := (112 : Int32)) C dX6_kindNow_2 (by decide) ?_
  refine j_bipush (v := (108 : Int32)) C dX6_kindNow_4 (by decide) ?_
  refine j_bipush (v := (97 : Int32)) C dX6_kindNow_6 (by decide) ?_
  refine j_bipush (v := (105 : Int32)) C dX6_kindNow_8 (by decide) ?_
  refine j_callVI (As := [.int (5 : Int32), .int (112 : Int32), .int (108 : Int32), .int (97 : Int32), .int (105 : Int32)]) (rest := []) C 64 (c_X6_is h) (cwV 5 C.2.2.2.2.2.1 gX6_kindNow_X6_is rfl rfl rfl hdX6_is ⟨Nat.le_of_ble_eq_true rfl, Nat.le_of_ble_eq_true rfl⟩) rfl rfl rfl rfl (Nat.le_of_ble_eq_true rfl) dX6_kindNow_10 (fun r17 σ16 h => ?_)
  refine j_if_eq C 29 dX6_kindNow_13 (by decide) (fun c18 => ?_) (fun c18 => ?_)
  · replace h := h.1 c18
    exact j_sub (lv' := [(0, .ref (eA E 64))]) [0] rfl h
  · replace h := h.2 c18
    refine j_aload_n C 0 dX6_kindNow_16 rfl 0 rfl ?_
    refine j_bipush (v := (110 : Int32)) C dX6_kindNow_17 (by decide) ?_
    refine j_iconst (v := (0 : Int32)) C dX6_kindNow_19 (by decide) ?_
    refine j_iconst (v := (0 : Int32)) C dX6_kindNow_20 (by decide) ?_
    refine j_callVI (As := [.int (110 : Int32), .int (0 : Int32), .int (0 : Int32)]) (rest := []) C 64 (c_X6_ends h) (cwV 3 C.2.2.2.2.2.1 gX6_kindNow_X6_ends rfl rfl rfl hdX6_ends ⟨Nat.le_of_ble_eq_true rfl, Nat.le_of_ble_eq_true rfl⟩) rfl rfl rfl rfl (Nat.le_of_ble_eq_true rfl) dX6_kindNow_21 (fun r20 σ19 h => ?_)
    refine j_if_eq C 29 dX6_kindNow_24 (by decide) (fun c21 => ?_) (fun c21 => ?_)
    · replace h := h.1 c21
      exact j_sub (lv' := [(0, .ref (eA E 64))]) [0] rfl h
    · replace h := h.2 c21
      refine j_iconst (v := (0 : Int32)) C dX6_kindNow_27 (by decide) ?_
      exact j_iret C dX6_kindNow_28 h
def wp_X6_lineNow (σ : Mem) (Q : Int32 → Mem → Prop) : Prop :=
  ∀ (P52 : Mem → Prop) (P84 : Mem → Prop),
  (∀ (σ : Mem), (wp_X6_is (5 : Int32) (119 : Int32) (111 : Int32) (114 : Int32) (107 : Int32) σ (fun r2 σ1 => (r2 = 0 → P84 σ1) ∧ (¬ r2 = 0 → wp_X6_ends (115 : Int32) (0 : Int32) (0 : Int32) σ1 (fun r5 σ4 => (r5 = 0 → P84 σ4) ∧ (¬ r5 = 0 → Q (6 : Int32) σ4))))) → P52 σ) →
  (∀ (σ : Mem), (wp_X6_kindNow σ (fun r8 σ7 => Q r8 σ7)) → P84 σ) →
  wp_X6_is (4 : Int32) (108 : Int32) (105 : Int32) (110 : Int32) (101 : Int32) σ (fun r10 σ9 => (r10 = 0 → wp_X6_is (7 : Int32) (108 : Int32) (117 : Int32) (109 : Int32) (98 : Int32) σ9 (fun r13 σ12 => (r13 = 0 → P52 σ12) ∧ (¬ r13 = 0 → wp_X6_ends (97 : Int32) (103 : Int32) (111 : Int32) σ12 (fun r16 σ15 => (r16 = 0 → P52 σ15) ∧ (¬ r16 = 0 → Q (5 : Int32) σ15))))) ∧ (¬ r10 = 0 → Q (4 : Int32) σ9))
def rmX6_lineNow : Room := { frames := 3, cells := 0, slots := 0, locals := 66 }
theorem hdX6_lineNow : yX6_lineNow.cls = RX6 ∧ yX6_lineNow.cls ≠ "java/lang/invoke/MethodHandle" ∧ yX6_lineNow.cls ≠ "java/lang/invoke/VarHandle" ∧ (parseMethodDescriptor yX6_lineNow.desc).map (fun d => d.parameters.length) = some 0 := by decide +kernel
set_option maxHeartbeats 4000000 in
set_option maxRecDepth 100000 in
theorem c_X6_lineNow {l : Launch} {E : EE}   {σ : Mem} {Q : Int32 → Mem → Prop} (h : wp_X6_lineNow  σ Q) : CtI l yX6_lineNow wsX6_lineNow rmX6_lineNow E [.ref (eA E 64)] σ Q := by
  refine metI (cc := cX6_lineNow) (nL := 1) (ret := (some .int)) (lv := [(0, .ref (eA E 64))]) (by decide) rfl (Nat.le_of_ble_eq_true rfl) rfl ?_
  intro p e s m args below meth c C
  unfold wp_X6_lineNow at h
  replace h := h (fun (σ : Mem) => J E p l e rmX6_lineNow s m args below meth c (QI E below args s Q) 1 52 [(0, .ref (eA E 64))] [] σ) (fun (σ : Mem) => J E p l e rmX6_lineNow s m args below meth c (QI E below args s Q) 1 84 [(0, .ref (eA E 64))] [] σ) (by
    intro σ h
    refine j_aload_n C 0 dX6_lineNow_52 rfl 0 rfl ?_
    refine j_iconst (v := (5 : Int32)) C dX6_lineNow_53 (by decide) ?_
    refine j_bipush (v := (119 : Int32)) C dX6_lineNow_54 (by decide) ?_
    refine j_bipush (v := (111 : Int32)) C dX6_lineNow_56 (by decide) ?_
    refine j_bipush (v := (114 : Int32)) C dX6_lineNow_58 (by decide) ?_
    refine j_bipush (v := (107 : Int32)) C dX6_lineNow_60 (by decide) ?_
    refine j_callVI (As := [.int (5 : Int32), .int (119 : Int32), .int (111 : Int32), .int (114 : Int32), .int (107 : Int32)]) (rest := []) C 64 (c_X6_is h) (cwV 5 C.2.2.2.2.2.1 gX6_lineNow_X6_is rfl rfl rfl hdX6_is ⟨Nat.le_of_ble_eq_true rfl, Nat.le_of_ble_eq_true rfl⟩) rfl rfl rfl rfl (Nat.le_of_ble_eq_true rfl) dX6_lineNow_62 (fun r2 σ1 h => ?_)
    refine j_if_eq C 84 dX6_lineNow_65 (by decide) (fun c3 => ?_) (fun c3 => ?_)
    · replace h := h.1 c3
      exact j_sub (lv' := [(0, .ref (eA E 64))]) [0] rfl h
    · replace h := h.2 c3
      refine j_aload_n C 0 dX6_lineNow_68 rfl 0 rfl ?_
      refine j_bipush (v := (115 : Int32)) C dX6_lineNow_69 (by decide) ?_
      refine j_iconst (v := (0 : Int32)) C dX6_lineNow_71 (by decide) ?_
      refine j_iconst (v := (0 : Int32)) C dX6_lineNow_72 (by decide) ?_
      refine j_callVI (As := [.int (115 : Int32), .int (0 : Int32), .int (0 : Int32)]) (rest := []) C 64 (c_X6_ends h) (cwV 3 C.2.2.2.2.2.1 gX6_lineNow_X6_ends rfl rfl rfl hdX6_ends ⟨Nat.le_of_ble_eq_true rfl, Nat.le_of_ble_eq_true rfl⟩) rfl rfl rfl rfl (Nat.le_of_ble_eq_true rfl) dX6_lineNow_73 (fun r5 σ4 h => ?_)
      refine j_if_eq C 84 dX6_lineNow_76 (by decide) (fun c6 => ?_) (fun c6 => ?_)
      · replace h := h.1 c6
        exact j_sub (lv' := [(0, .ref (eA E 64))]) [0] rfl h
      · replace h := h.2 c6
        refine j_bipush (v := (6 : Int32)) C dX6_lineNow_79 (by decide) ?_
        refine j_goto C 88 dX6_lineNow_81 (by decide) ?_
        exact j_iret C dX6_lineNow_88 h) (by
    intro σ h
    refine j_aload_n C 0 dX6_lineNow_84 rfl 0 rfl ?_
    refine j_callVI (As := []) (rest := []) C 64 (c_X6_kindNow h) (cwV 0 C.2.2.2.2.2.1 gX6_lineNow_X6_kindNow rfl rfl rfl hdX6_kindNow ⟨Nat.le_of_ble_eq_true rfl, Nat.le_of_ble_eq_true rfl⟩) rfl rfl rfl rfl (Nat.le_of_ble_eq_true rfl) dX6_lineNow_85 (fun r8 σ7 h => ?_)
    exact j_iret C dX6_lineNow_88 h)
  refine j_aload_n C 0 dX6_lineNow_0 rfl 0 rfl ?_
  refine j_iconst (v := (4 : Int32)) C dX6_lineNow_1 (by decide) ?_
  refine j_bipush (v := (108 : Int32)) C dX6_lineNow_2 (by decide) ?_
  refine j_bipush (v := (105 : Int32)) C dX6_lineNow_4 (by decide) ?_
  refine j_bipush (v := (110 : Int32)) C dX6_lineNow_6 (by decide) ?_
  refine j_bipush (v := (101 : Int32)) C dX6_lineNow_8 (by decide) ?_
  refine j_callVI (As := [.int (4 : Int32), .int (108 : Int32), .int (105 : Int32), .int (110 : Int32), .int (101 : Int32)]) (rest := []) C 64 (c_X6_is h) (cwV 5 C.2.2.2.2.2.1 gX6_lineNow_X6_is rfl rfl rfl hdX6_is ⟨Nat.le_of_ble_eq_true rfl, Nat.le_of_ble_eq_true rfl⟩) rfl rfl rfl rfl (Nat.le_of_ble_eq_true rfl) dX6_lineNow_10 (fun r10 σ9 h => ?_)
  refine j_if_eq C 18 dX6_lineNow_13 (by decide) (fun c11 => ?_) (fun c11 => ?_)
  · replace h := h.1 c11
    refine j_aload_n C 0 dX6_lineNow_18 rfl 0 rfl ?_
    refine j_bipush (v := (7 : Int32)) C dX6_lineNow_19 (by decide) ?_
    refine j_bipush (v := (108 : Int32)) C dX6_lineNow_21 (by decide) ?_
    refine j_bipush (v := (117 : Int32)) C dX6_lineNow_23 (by decide) ?_
    refine j_bipush (v := (109 : Int32)) C dX6_lineNow_25 (by decide) ?_
    refine j_bipush (v := (98 : Int32)) C dX6_lineNow_27 (by decide) ?_
    refine j_callVI (As := [.int (7 : Int32), .int (108 : Int32), .int (117 : Int32), .int (109 : Int32), .int (98 : Int32)]) (rest := []) C 64 (c_X6_is h) (cwV 5 C.2.2.2.2.2.1 gX6_lineNow_X6_is rfl rfl rfl hdX6_is ⟨Nat.le_of_ble_eq_true rfl, Nat.le_of_ble_eq_true rfl⟩) rfl rfl rfl rfl (Nat.le_of_ble_eq_true rfl) dX6_lineNow_29 (fun r13 σ12 h => ?_)
    refine j_if_eq C 52 dX6_lineNow_32 (by decide) (fun c14 => ?_) (fun c14 => ?_)
    · replace h := h.1 c14
      exact j_sub (lv' := [(0, .ref (eA E 64))]) [0] rfl h
    · replace h := h.2 c14
      refine j_aload_n C 0 dX6_lineNow_35 rfl 0 rfl ?_
      refine j_bipush (v := (97 : Int32)) C dX6_lineNow_36 (by decide) ?_
      refine j_bipush (v := (103 : Int32)) C dX6_lineNow_38 (by decide) ?_
      refine j_bipush (v := (111 : Int32)) C dX6_lineNow_40 (by decide) ?_
      refine j_callVI (As := [.int (97 : Int32), .int (103 : Int32), .int (111 : Int32)]) (rest := []) C 64 (c_X6_ends h) (cwV 3 C.2.2.2.2.2.1 gX6_lineNow_X6_ends rfl rfl rfl hdX6_ends ⟨Nat.le_of_ble_eq_true rfl, Nat.le_of_ble_eq_true rfl⟩) rfl rfl rfl rfl (Nat.le_of_ble_eq_true rfl) dX6_lineNow_42 (fun r16 σ15 h => ?_)
      refine j_if_eq C 52 dX6_lineNow_45 (by decide) (fun c17 => ?_) (fun c17 => ?_)
      · replace h := h.1 c17
        exact j_sub (lv' := [(0, .ref (eA E 64))]) [0] rfl h
      · replace h := h.2 c17
        refine j_iconst (v := (5 : Int32)) C dX6_lineNow_48 (by decide) ?_
        refine j_goto C 88 dX6_lineNow_49 (by decide) ?_
        exact j_iret C dX6_lineNow_88 h
  · replace h := h.2 c11
    refine j_iconst (v := (4 : Int32)) C dX6_lineNow_16 (by decide) ?_
    exact j_iret C dX6_lineNow_17 h
def wp_X6_takes (σ : Mem) (Q : Mem → Prop) : Prop :=
  ∀ (P8 : Mem → Prop) (P82 : Mem → Prop) (P140 : Mem → Prop) (P201 : Int32 → Mem → Prop) (P236 : Int32 → Mem → Prop) (P260 : Int32 → Mem → Prop),
  (∀ (σ : Mem), (wp_X6_byteAt ((σ.1 64 11)) σ (fun r2 σ1 => (¬ r2 = (32 : Int32) → ∀ σ4 : Mem, σ4 = st1 σ1 64 12 (σ1.1 64 11) → wp_X6_byteAt ((σ4.1 64 11)) σ4 (fun r6 σ5 => (0 ≤ r6 → wp_X6_in ((r6).toInt64) (97 : Int64) (122 : Int64) σ5 (fun r9 σ8 => (r9 = 0 → wp_X6_in ((r6).toInt64) (48 : Int64) (57 : Int64) σ8 (fun r12 σ11 => (r12 = 0 → ∀ σ14 : Mem, σ14 = st1 σ11 64 13 (3 : Int32) → (¬ r6 = (59 : Int32) → P260 (0 : Int32) σ14) ∧ (r6 = (59 : Int32) → P260 (1 : Int32) σ14)) ∧ (¬ r12 = 0 → ∀ σ16 : Mem, σ16 = st1 σ11 64 13 (2 : Int32) → ∀ σ17 : Mem, σ17 = st1 σ16 64 14 (0 : Int32) → P140 σ17))) ∧ (¬ r9 = 0 → ∀ σ18 : Mem, σ18 = st1 σ8 64 13 (1 : Int32) → P82 σ18))) ∧ (¬ 0 ≤ r6 → ∀ σ19 : Mem, σ19 = st1 σ5 64 13 (0 : Int32) → Q σ19))) ∧ (r2 = (32 : Int32) → ∀ σ20 : Mem, σ20 = st1 σ1 64 11 ((σ1.1 64 11) + (1 : Int32)) → P8 σ20))) → P8 σ) →
  (∀ (σ : Mem), (wp_X6_byteAt ((σ.1 64 11)) σ (fun r22 σ21 => wp_X6_in ((r22).toInt64) (97 : Int64) (122 : Int64) σ21 (fun r24 σ23 => (r24 = 0 → Q σ23) ∧ (¬ r24 = 0 → ∀ σ26 : Mem, σ26 = st1 σ23 64 11 ((σ23.1 64 11) + (1 : Int32)) → P82 σ26)))) → P82 σ) →
  (∀ (σ : Mem), (wp_X6_byteAt ((σ.1 64 11)) σ (fun r28 σ27 => wp_X6_in ((r28).toInt64) (48 : Int64) (57 : Int64) σ27 (fun r30 σ29 => (r30 = 0 → ((2 : Int32) < ((σ29.1 64 11) - (σ29.1 64 12)) → P236 (0 : Int32) σ29) ∧ (¬ (2 : Int32) < ((σ29.1 64 11) - (σ29.1 64 12)) → P236 (1 : Int32) σ29)) ∧ (¬ r30 = 0 → ((2 : Int32) ≤ ((σ29.1 64 11) - (σ29.1 64 12)) → P201 ((σ29.1 64 14)) σ29) ∧ (¬ (2 : Int32) ≤ ((σ29.1 64 11) - (σ29.1 64 12)) → wp_X6_byteAt ((σ29.1 64 11)) σ29 (fun r35 σ34 => P201 (((((10 : Int32) * (σ29.1 64 14)) + r35) - (48 : Int32))) σ34)))))) → P140 σ) →
  (∀ (s0 : Int32) (σ : Mem), (∀ σ36 : Mem, σ36 = st1 σ 64 14 s0 → ∀ σ37 : Mem, σ37 = st1 σ36 64 11 ((σ36.1 64 11) + (1 : Int32)) → P140 σ37) → P201 s0 σ) →
  (∀ (s0 : Int32) (σ : Mem), (wp_X6_needs s0 (1 : Int32) σ (fun σ38 => Q σ38)) → P236 s0 σ) →
  (∀ (s0 : Int32) (σ : Mem), (wp_X6_needs s0 (1 : Int32) σ (fun σ39 => ∀ σ40 : Mem, σ40 = st1 σ39 64 11 ((σ39.1 64 11) + (1 : Int32)) → Q σ40)) → P260 s0 σ) →
  ((σ.1 64 15) ≤ 0 → P8 σ) ∧ (¬ (σ.1 64 15) ≤ 0 → Q σ)
theorem in_X6_takes_X6 : ∀ w ∈ wsX60, w ∈ wsX6_takes := fun _ h => List.mem_cons_of_mem _ (List.mem_append_right _ h)
def rmX6_takes : Room := { frames := 1, cells := 0, slots := 0, locals := 25 }
theorem hdX6_takes : yX6_takes.cls = RX6 ∧ yX6_takes.cls ≠ "java/lang/invoke/MethodHandle" ∧ yX6_takes.cls ≠ "java/lang/invoke/VarHandle" ∧ (parseMethodDescriptor yX6_takes.desc).map (fun d => d.parameters.length) = some 0 := by decide +kernel
set_option maxHeartbeats 4000000 in
set_option maxRecDepth 100000 in
theorem c_X6_takes {l : Launch} {E : EE}   {σ : Mem} {Q : Mem → Prop} (h : wp_X6_takes  σ Q) : CtV l yX6_takes wsX6_takes rmX6_takes E [.ref (eA E 64)] σ Q := by
  refine metV (cc := cX6_takes) (nL := 2) (ret := none) (lv := [(0, .ref (eA E 64))]) (by decide) rfl (Nat.le_of_ble_eq_true rfl) rfl ?_
  intro p e s m args below meth c C
  unfold wp_X6_takes at h
  replace h := h (fun (σ : Mem) => J E p l e rmX6_takes s m args below meth c (QV E below args s Q) 2 8 [(0, .ref (eA E 64))] [] σ) (fun (σ : Mem) => J E p l e rmX6_takes s m args below meth c (QV E below args s Q) 2 82 [(0, .ref (eA E 64))] [] σ) (fun (σ : Mem) => J E p l e rmX6_takes s m args below meth c (QV E below args s Q) 2 140 [(0, .ref (eA E 64))] [] σ) (fun (s0 : Int32) (σ : Mem) => J E p l e rmX6_takes s m args below meth c (QV E below args s Q) 2 201 [(0, .ref (eA E 64))] [.int s0, .ref (eA E 64)] σ) (fun (s0 : Int32) (σ : Mem) => J E p l e rmX6_takes s m args below meth c (QV E below args s Q) 2 236 [] [.int s0, .ref (eA E 64)] σ) (fun (s0 : Int32) (σ : Mem) => J E p l e rmX6_takes s m args below meth c (QV E below args s Q) 2 260 [(0, .ref (eA E 64))] [.int s0, .ref (eA E 64)] σ) (by
    intro σ h
    refine j_aload_n C 0 dX6_takes_8 rfl 0 rfl ?_
    refine j_aload_n C 0 dX6_takes_9 rfl 0 rfl ?_
    refine j_getI C 64 11 rfl rfl rfl in_X6_takes_X6 (by decide) (by decide +kernel) dX6_takes_10 ?_
    refine j_callVI (As := [.int (σ.1 64 11)]) (rest := []) C 64 (c_X6_byteAt h) (cwV 1 C.2.2.2.2.2.1 gX6_takes_X6_byteAt rfl rfl rfl hdX6_byteAt ⟨Nat.le_of_ble_eq_true rfl, Nat.le_of_ble_eq_true rfl⟩) rfl rfl rfl rfl (Nat.le_of_ble_eq_true rfl) dX6_takes_13 (fun r2 σ1 h => ?_)
    refine j_bipush (v := (32 : Int32)) C dX6_takes_16 (by decide) ?_
    refine j_icmp_ne C 34 dX6_takes_18 (by decide) (fun c3 => ?_) (fun c3 => ?_)
    · replace h := h.1 c3
      refine j_aload_n C 0 dX6_takes_34 rfl 0 rfl ?_
      refine j_aload_n C 0 dX6_takes_35 rfl 0 rfl ?_
      refine j_getI C 64 11 rfl rfl rfl in_X6_takes_X6 (by decide) (by decide +kernel) dX6_takes_36 ?_
      refine j_put C 64 12 rfl rfl rfl in_X6_takes_X6 tyX6 tyX6_ok nmX6 (by decide) (by decide +kernel) rfl rfl rfl rfl dX6_takes_39 ?_
      refine j_mem (fun σ4 eσ4 => ?_)
      replace h := h σ4 eσ4
      refine j_aload_n C 0 dX6_takes_42 rfl 0 rfl ?_
      refine j_aload_n C 0 dX6_takes_43 rfl 0 rfl ?_
      refine j_getI C 64 11 rfl rfl rfl in_X6_takes_X6 (by decide) (by decide +kernel) dX6_takes_44 ?_
      refine j_callVI (As := [.int (σ4.1 64 11)]) (rest := []) C 64 (c_X6_byteAt h) (cwV 1 C.2.2.2.2.2.1 gX6_takes_X6_byteAt rfl rfl rfl hdX6_byteAt ⟨Nat.le_of_ble_eq_true rfl, Nat.le_of_ble_eq_true rfl⟩) rfl rfl rfl rfl (Nat.le_of_ble_eq_true rfl) dX6_takes_47 (fun r6 σ5 h => ?_)
      refine j_istore_n (lv' := [(1, .int r6), (0, .ref (eA E 64))]) C 1 dX6_takes_50 rfl (by decide) rfl ?_
      refine j_iload_n C 1 dX6_takes_51 rfl 0 rfl ?_
      refine j_if_ge C 63 dX6_takes_52 (by decide) (fun c7 => ?_) (fun c7 => ?_)
      · replace h := h.1 c7
        refine j_iload_n C 1 dX6_takes_63 rfl 0 rfl ?_
        refine j_i2l C dX6_takes_64 rfl ?_
        refine j_ldc2 C (97 : Int64) dX6_takes_65 (by decide +kernel) ?_
        refine j_ldc2 C (122 : Int64) dX6_takes_68 (by decide +kernel) ?_
        refine j_callSI (As := [.long (r6).toInt64, .long (97 : Int64), .long (122 : Int64)]) (rest := []) C (c_X6_in h) (va_cwS 3 C.2.2.2.2.2.1 gX6_takes_X6_in rfl rfl rfl hdX6_in.2 ⟨Nat.le_of_ble_eq_true rfl, Nat.le_of_ble_eq_true rfl⟩) rfl rfl (Nat.le_of_ble_eq_true rfl) dX6_takes_71 (fun r9 σ8 h => ?_)
        refine j_if_eq C 116 dX6_takes_74 (by decide) (fun c10 => ?_) (fun c10 => ?_)
        · replace h := h.1 c10
          refine j_iload_n C 1 dX6_takes_116 rfl 0 rfl ?_
          refine j_i2l C dX6_takes_117 rfl ?_
          refine j_ldc2 C (48 : Int64) dX6_takes_118 (by decide +kernel) ?_
          refine j_ldc2 C (57 : Int64) dX6_takes_121 (by decide +kernel) ?_
          refine j_callSI (As := [.long (r6).toInt64, .long (48 : Int64), .long (57 : Int64)]) (rest := []) C (c_X6_in h) (va_cwS 3 C.2.2.2.2.2.1 gX6_takes_X6_in rfl rfl rfl hdX6_in.2 ⟨Nat.le_of_ble_eq_true rfl, Nat.le_of_ble_eq_true rfl⟩) rfl rfl (Nat.le_of_ble_eq_true rfl) dX6_takes_124 (fun r12 σ11 h => ?_)
          refine j_if_eq C 243 dX6_takes_127 (by decide) (fun c13 => ?_) (fun c13 => ?_)
          · replace h := h.1 c13
            refine j_aload_n C 0 dX6_takes_243 rfl 1 rfl ?_
            refine j_iconst (v := (3 : Int32)) C dX6_takes_244 (by decide) ?_
            refine j_put C 64 13 rfl rfl rfl in_X6_takes_X6 tyX6 tyX6_ok nmX6 (by decide) (by decide +kernel) rfl rfl rfl rfl dX6_takes_245 ?_
            refine j_mem (fun σ14 eσ14 => ?_)
            replace h := h σ14 eσ14
            refine j_aload_n C 0 dX6_takes_248 rfl 1 rfl ?_
            refine j_iload_n C 1 dX6_takes_249 rfl 0 rfl ?_
            refine j_bipush (v := (59 : Int32)) C dX6_takes_250 (by decide) ?_
            refine j_icmp_ne C 259 dX6_takes_252 (by decide) (fun c15 => ?_) (fun c15 => ?_)
            · replace h := h.1 c15
              refine j_iconst (v := (0 : Int32)) C dX6_takes_259 (by decide) ?_
              exact j_sub (lv' := [(0, .ref (eA E 64))]) [1] rfl h
            · replace h := h.2 c15
              refine j_iconst (v := (1 : Int32)) C dX6_takes_255 (by decide) ?_
              refine j_goto C 260 dX6_takes_256 (by decide) ?_
              exact j_sub (lv' := [(0, .ref (eA E 64))]) [1] rfl h
          · replace h := h.2 c13
            refine j_aload_n C 0 dX6_takes_130 rfl 1 rfl ?_
            refine j_iconst (v := (2 : Int32)) C dX6_takes_131 (by decide) ?_
            refine j_put C 64 13 rfl rfl rfl in_X6_takes_X6 tyX6 tyX6_ok nmX6 (by decide) (by decide +kernel) rfl rfl rfl rfl dX6_takes_132 ?_
            refine j_mem (fun σ16 eσ16 => ?_)
            replace h := h σ16 eσ16
            refine j_aload_n C 0 dX6_takes_135 rfl 1 rfl ?_
            refine j_iconst (v := (0 : Int32)) C dX6_takes_136 (by decide) ?_
            refine j_put C 64 14 rfl rfl rfl in_X6_takes_X6 tyX6 tyX6_ok nmX6 (by decide) (by decide +kernel) rfl rfl rfl rfl dX6_takes_137 ?_
            refine j_mem (fun σ17 eσ17 => ?_)
            replace h := h σ17 eσ17
            exact j_sub (lv' := [(0, .ref (eA E 64))]) [1] rfl h
        · replace h := h.2 c10
          refine j_aload_n C 0 dX6_takes_77 rfl 1 rfl ?_
          refine j_iconst (v := (1 : Int32)) C dX6_takes_78 (by decide) ?_
          refine j_put C 64 13 rfl rfl rfl in_X6_takes_X6 tyX6 tyX6_ok nmX6 (by decide) (by decide +kernel) rfl rfl rfl rfl dX6_takes_79 ?_
          refine j_mem (fun σ18 eσ18 => ?_)
          replace h := h σ18 eσ18
          exact j_sub (lv' := [(0, .ref (eA E 64))]) [1] rfl h
      · replace h := h.2 c7
        refine j_aload_n C 0 dX6_takes_55 rfl 1 rfl ?_
        refine j_iconst (v := (0 : Int32)) C dX6_takes_56 (by decide) ?_
        refine j_put C 64 13 rfl rfl rfl in_X6_takes_X6 tyX6 tyX6_ok nmX6 (by decide) (by decide +kernel) rfl rfl rfl rfl dX6_takes_57 ?_
        refine j_mem (fun σ19 eσ19 => ?_)
        replace h := h σ19 eσ19
        refine j_goto C 274 dX6_takes_60 (by decide) ?_
        exact j_vret C dX6_takes_274 h
    · replace h := h.2 c3
      refine j_aload_n C 0 dX6_takes_21 rfl 0 rfl ?_
      refine j_dup C dX6_takes_22 rfl ?_
      refine j_getI C 64 11 rfl rfl rfl in_X6_takes_X6 (by decide) (by decide +kernel) dX6_takes_23 ?_
      refine j_iconst (v := (1 : Int32)) C dX6_takes_26 (by decide) ?_
      refine j_iadd C dX6_takes_27 ?_
      refine j_put C 64 11 rfl rfl rfl in_X6_takes_X6 tyX6 tyX6_ok nmX6 (by decide) (by decide +kernel) rfl rfl rfl rfl dX6_takes_28 ?_
      refine j_mem (fun σ20 eσ20 => ?_)
      replace h := h σ20 eσ20
      refine j_goto C 8 dX6_takes_31 (by decide) ?_
      exact j_sub (lv' := [(0, .ref (eA E 64))]) [0] rfl h) (by
    intro σ h
    refine j_aload_n C 0 dX6_takes_82 rfl 0 rfl ?_
    refine j_aload_n C 0 dX6_takes_83 rfl 0 rfl ?_
    refine j_getI C 64 11 rfl rfl rfl in_X6_takes_X6 (by decide) (by decide +kernel) dX6_takes_84 ?_
    refine j_callVI (As := [.int (σ.1 64 11)]) (rest := []) C 64 (c_X6_byteAt h) (cwV 1 C.2.2.2.2.2.1 gX6_takes_X6_byteAt rfl rfl rfl hdX6_byteAt ⟨Nat.le_of_ble_eq_true rfl, Nat.le_of_ble_eq_true rfl⟩) rfl rfl rfl rfl (Nat.le_of_ble_eq_true rfl) dX6_takes_87 (fun r22 σ21 h => ?_)
    refine j_i2l C dX6_takes_90 rfl ?_
    refine j_ldc2 C (97 : Int64) dX6_takes_91 (by decide +kernel) ?_
    refine j_ldc2 C (122 : Int64) dX6_takes_94 (by decide +kernel) ?_
    refine j_callSI (As := [.long (r22).toInt64, .long (97 : Int64), .long (122 : Int64)]) (rest := []) C (c_X6_in h) (va_cwS 3 C.2.2.2.2.2.1 gX6_takes_X6_in rfl rfl rfl hdX6_in.2 ⟨Nat.le_of_ble_eq_true rfl, Nat.le_of_ble_eq_true rfl⟩) rfl rfl (Nat.le_of_ble_eq_true rfl) dX6_takes_97 (fun r24 σ23 h => ?_)
    refine j_if_eq C 274 dX6_takes_100 (by decide) (fun c25 => ?_) (fun c25 => ?_)
    · replace h := h.1 c25
      exact j_vret C dX6_takes_274 h
    · replace h := h.2 c25
      refine j_aload_n C 0 dX6_takes_103 rfl 0 rfl ?_
      refine j_dup C dX6_takes_104 rfl ?_
      refine j_getI C 64 11 rfl rfl rfl in_X6_takes_X6 (by decide) (by decide +kernel) dX6_takes_105 ?_
      refine j_iconst (v := (1 : Int32)) C dX6_takes_108 (by decide) ?_
      refine j_iadd C dX6_takes_109 ?_
      refine j_put C 64 11 rfl rfl rfl in_X6_takes_X6 tyX6 tyX6_ok nmX6 (by decide) (by decide +kernel) rfl rfl rfl rfl dX6_takes_110 ?_
      refine j_mem (fun σ26 eσ26 => ?_)
      replace h := h σ26 eσ26
      refine j_goto C 82 dX6_takes_113 (by decide) ?_
      exact j_sub (lv' := [(0, .ref (eA E 64))]) [0] rfl h) (by
    intro σ h
    refine j_aload_n C 0 dX6_takes_140 rfl 0 rfl ?_
    refine j_aload_n C 0 dX6_takes_141 rfl 0 rfl ?_
    refine j_getI C 64 11 rfl rfl rfl in_X6_takes_X6 (by decide) (by decide +kernel) dX6_takes_142 ?_
    refine j_callVI (As := [.int (σ.1 64 11)]) (rest := []) C 64 (c_X6_byteAt h) (cwV 1 C.2.2.2.2.2.1 gX6_takes_X6_byteAt rfl rfl rfl hdX6_byteAt ⟨Nat.le_of_ble_eq_true rfl, Nat.le_of_ble_eq_true rfl⟩) rfl rfl rfl rfl (Nat.le_of_ble_eq_true rfl) dX6_takes_145 (fun r28 σ27 h => ?_)
    refine j_i2l C dX6_takes_148 rfl ?_
    refine j_ldc2 C (48 : Int64) dX6_takes_149 (by decide +kernel) ?_
    refine j_ldc2 C (57 : Int64) dX6_takes_152 (by decide +kernel) ?_
    refine j_callSI (As := [.long (r28).toInt64, .long (48 : Int64), .long (57 : Int64)]) (rest := []) C (c_X6_in h) (va_cwS 3 C.2.2.2.2.2.1 gX6_takes_X6_in rfl rfl rfl hdX6_in.2 ⟨Nat.le_of_ble_eq_true rfl, Nat.le_of_ble_eq_true rfl⟩) rfl rfl (Nat.le_of_ble_eq_true rfl) dX6_takes_155 (fun r30 σ29 h => ?_)
    refine j_if_eq C 217 dX6_takes_158 (by decide) (fun c31 => ?_) (fun c31 => ?_)
    · replace h := h.1 c31
      refine j_aload_n C 0 dX6_takes_217 rfl 0 rfl ?_
      refine j_aload_n C 0 dX6_takes_218 rfl 0 rfl ?_
      refine j_getI C 64 11 rfl rfl rfl in_X6_takes_X6 (by decide) (by decide +kernel) dX6_takes_219 ?_
      refine j_aload_n C 0 dX6_takes_222 rfl 0 rfl ?_
      refine j_getI C 64 12 rfl rfl rfl in_X6_takes_X6 (by decide) (by decide +kernel) dX6_takes_223 ?_
      refine j_isub C dX6_takes_226 ?_
      refine j_iconst (v := (2 : Int32)) C dX6_takes_227 (by decide) ?_
      refine j_icmp_gt C 235 dX6_takes_228 (by decide) (fun c32 => ?_) (fun c32 => ?_)
      · replace h := h.1 c32
        refine j_iconst (v := (0 : Int32)) C dX6_takes_235 (by decide) ?_
        exact j_sub (lv' := []) [] rfl h
      · replace h := h.2 c32
        refine j_iconst (v := (1 : Int32)) C dX6_takes_231 (by decide) ?_
        refine j_goto C 236 dX6_takes_232 (by decide) ?_
        exact j_sub (lv' := []) [] rfl h
    · replace h := h.2 c31
      refine j_aload_n C 0 dX6_takes_161 rfl 0 rfl ?_
      refine j_aload_n C 0 dX6_takes_162 rfl 0 rfl ?_
      refine j_getI C 64 11 rfl rfl rfl in_X6_takes_X6 (by decide) (by decide +kernel) dX6_takes_163 ?_
      refine j_aload_n C 0 dX6_takes_166 rfl 0 rfl ?_
      refine j_getI C 64 12 rfl rfl rfl in_X6_takes_X6 (by decide) (by decide +kernel) dX6_takes_167 ?_
      refine j_isub C dX6_takes_170 ?_
      refine j_iconst (v := (2 : Int32)) C dX6_takes_171 (by decide) ?_
      refine j_icmp_ge C 197 dX6_takes_172 (by decide) (fun c33 => ?_) (fun c33 => ?_)
      · replace h := h.1 c33
        refine j_aload_n C 0 dX6_takes_197 rfl 0 rfl ?_
        refine j_getI C 64 14 rfl rfl rfl in_X6_takes_X6 (by decide) (by decide +kernel) dX6_takes_198 ?_
        exact j_sub (lv' := [(0, .ref (eA E 64))]) [0] rfl h
      · replace h := h.2 c33
        refine j_bipush (v := (10 : Int32)) C dX6_takes_175 (by decide) ?_
        refine j_aload_n C 0 dX6_takes_177 rfl 0 rfl ?_
        refine j_getI C 64 14 rfl rfl rfl in_X6_takes_X6 (by decide) (by decide +kernel) dX6_takes_178 ?_
        refine j_imul C dX6_takes_181 ?_
        refine j_aload_n C 0 dX6_takes_182 rfl 0 rfl ?_
        refine j_aload_n C 0 dX6_takes_183 rfl 0 rfl ?_
        refine j_getI C 64 11 rfl rfl rfl in_X6_takes_X6 (by decide) (by decide +kernel) dX6_takes_184 ?_
        refine j_callVI (As := [.int (σ29.1 64 11)]) (rest := [.int ((10 : Int32) * (σ29.1 64 14)), .ref (eA E 64)]) C 64 (c_X6_byteAt h) (cwV 1 C.2.2.2.2.2.1 gX6_takes_X6_byteAt rfl rfl rfl hdX6_byteAt ⟨Nat.le_of_ble_eq_true rfl, Nat.le_of_ble_eq_true rfl⟩) rfl rfl rfl rfl (Nat.le_of_ble_eq_true rfl) dX6_takes_187 (fun r35 σ34 h => ?_)
        refine j_iadd C dX6_takes_190 ?_
        refine j_bipush (v := (48 : Int32)) C dX6_takes_191 (by decide) ?_
        refine j_isub C dX6_takes_193 ?_
        refine j_goto C 201 dX6_takes_194 (by decide) ?_
        exact j_sub (lv' := [(0, .ref (eA E 64))]) [0] rfl h) (by
    intro s0 σ h
    refine j_put C 64 14 rfl rfl rfl in_X6_takes_X6 tyX6 tyX6_ok nmX6 (by decide) (by decide +kernel) rfl rfl rfl rfl dX6_takes_201 ?_
    refine j_mem (fun σ36 eσ36 => ?_)
    replace h := h σ36 eσ36
    refine j_aload_n C 0 dX6_takes_204 rfl 0 rfl ?_
    refine j_dup C dX6_takes_205 rfl ?_
    refine j_getI C 64 11 rfl rfl rfl in_X6_takes_X6 (by decide) (by decide +kernel) dX6_takes_206 ?_
    refine j_iconst (v := (1 : Int32)) C dX6_takes_209 (by decide) ?_
    refine j_iadd C dX6_takes_210 ?_
    refine j_put C 64 11 rfl rfl rfl in_X6_takes_X6 tyX6 tyX6_ok nmX6 (by decide) (by decide +kernel) rfl rfl rfl rfl dX6_takes_211 ?_
    refine j_mem (fun σ37 eσ37 => ?_)
    replace h := h σ37 eσ37
    refine j_goto C 140 dX6_takes_214 (by decide) ?_
    exact j_sub (lv' := [(0, .ref (eA E 64))]) [0] rfl h) (by
    intro s0 σ h
    refine j_iconst (v := (1 : Int32)) C dX6_takes_236 (by decide) ?_
    refine j_callVV (As := [.int s0, .int (1 : Int32)]) (rest := []) C 64 (c_X6_needs h) (cwV 2 C.2.2.2.2.2.1 gX6_takes_X6_needs rfl rfl rfl hdX6_needs ⟨Nat.le_of_ble_eq_true rfl, Nat.le_of_ble_eq_true rfl⟩) rfl rfl rfl rfl (Nat.le_of_ble_eq_true rfl) dX6_takes_237 (fun σ38 h => ?_)
    refine j_goto C 274 dX6_takes_240 (by decide) ?_
    exact j_vret C dX6_takes_274 h) (by
    intro s0 σ h
    refine j_iconst (v := (1 : Int32)) C dX6_takes_260 (by decide) ?_
    refine j_callVV (As := [.int s0, .int (1 : Int32)]) (rest := []) C 64 (c_X6_needs h) (cwV 2 C.2.2.2.2.2.1 gX6_takes_X6_needs rfl rfl rfl hdX6_needs ⟨Nat.le_of_ble_eq_true rfl, Nat.le_of_ble_eq_true rfl⟩) rfl rfl rfl rfl (Nat.le_of_ble_eq_true rfl) dX6_takes_261 (fun σ39 h => ?_)
    refine j_aload_n C 0 dX6_takes_264 rfl 0 rfl ?_
    refine j_dup C dX6_takes_265 rfl ?_
    refine j_getI C 64 11 rfl rfl rfl in_X6_takes_X6 (by decide) (by decide +kernel) dX6_takes_266 ?_
    refine j_iconst (v := (1 : Int32)) C dX6_takes_269 (by decide) ?_
    refine j_iadd C dX6_takes_270 ?_
    refine j_put C 64 11 rfl rfl rfl in_X6_takes_X6 tyX6 tyX6_ok nmX6 (by decide) (by decide +kernel) rfl rfl rfl rfl dX6_takes_271 ?_
    refine j_mem (fun σ40 eσ40 => ?_)
    replace h := h σ40 eσ40
    exact j_vret C dX6_takes_274 h)
  refine j_aload_n C 0 dX6_takes_0 rfl 0 rfl ?_
  refine j_getI C 64 15 rfl rfl rfl in_X6_takes_X6 (by decide) (by decide +kernel) dX6_takes_1 ?_
  refine j_if_le C 8 dX6_takes_4 (by decide) (fun c41 => ?_) (fun c41 => ?_)
  · replace h := h.1 c41
    exact j_sub (lv' := [(0, .ref (eA E 64))]) [0] rfl h
  · replace h := h.2 c41
    exact j_vret C dX6_takes_7 h
def wp_X6_looked (a1 : Int32) (a2 : Int32) (σ : Mem) (Q : Int32 → Mem → Prop) : Prop :=
  ∀ (P21 : Int32 → Mem → Prop) (P25 : Mem → Prop) (P49 : Mem → Prop),
  (∀ (s0 : Int32) (σ : Mem), (wp_X6_needs s0 (2 : Int32) σ (fun σ1 => P25 σ1)) → P21 s0 σ) →
  (∀ (σ : Mem), ((¬ (σ.1 64 15) = 0 → P49 σ) ∧ ((σ.1 64 15) = 0 → wp_X6_in (((σ.1 64 14)).toInt64) ((a1).toInt64) ((a2).toInt64) σ (fun r4 σ3 => wp_X6_needs r4 (3 : Int32) σ3 (fun σ5 => P49 σ5)))) → P25 σ) →
  (∀ (σ : Mem), ((¬ (σ.1 64 15) = 0 → Q (0 : Int32) σ) ∧ ((σ.1 64 15) = 0 → Q (σ.1 64 14) σ)) → P49 σ) →
  (¬ (σ.1 64 15) = 0 → P25 σ) ∧ ((σ.1 64 15) = 0 → (¬ (σ.1 64 13) = (2 : Int32) → P21 (0 : Int32) σ) ∧ ((σ.1 64 13) = (2 : Int32) → P21 (1 : Int32) σ))
theorem in_X6_looked_X6 : ∀ w ∈ wsX60, w ∈ wsX6_looked := fun _ h => List.mem_cons_of_mem _ (List.mem_append_right _ h)
def rmX6_looked : Room := { frames := 1, cells := 0, slots := 0, locals := 25 }
theorem hdX6_looked : yX6_looked.cls = RX6 ∧ yX6_looked.cls ≠ "java/lang/invoke/MethodHandle" ∧ yX6_looked.cls ≠ "java/lang/invoke/VarHandle" ∧ (parseMethodDescriptor yX6_looked.desc).map (fun d => d.parameters.length) = some 2 := by decide +kernel
set_option maxHeartbeats 4000000 in
set_option maxRecDepth 100000 in
theorem c_X6_looked {l : Launch} {E : EE} {a1 : Int32} {a2 : Int32}  {σ : Mem} {Q : Int32 → Mem → Prop} (h : wp_X6_looked a1 a2 σ Q) : CtI l yX6_looked wsX6_looked rmX6_looked E [.ref (eA E 64), .int a1, .int a2] σ Q := by
  refine metI (cc := cX6_looked) (nL := 3) (ret := (some .int)) (lv := [(0, .ref (eA E 64)), (1, .int a1), (2, .int a2)]) (by decide) rfl (Nat.le_of_ble_eq_true rfl) rfl ?_
  intro p e s m args below meth c C
  unfold wp_X6_looked at h
  replace h := h (fun (s0 : Int32) (σ : Mem) => J E p l e rmX6_looked s m args below meth c (QI E below args s Q) 3 21 [(0, .ref (eA E 64)), (1, .int a1), (2, .int a2)] [.int s0, .ref (eA E 64)] σ) (fun (σ : Mem) => J E p l e rmX6_looked s m args below meth c (QI E below args s Q) 3 25 [(0, .ref (eA E 64)), (1, .int a1), (2, .int a2)] [] σ) (fun (σ : Mem) => J E p l e rmX6_looked s m args below meth c (QI E below args s Q) 3 49 [(0, .ref (eA E 64))] [] σ) (by
    intro s0 σ h
    refine j_iconst (v := (2 : Int32)) C dX6_looked_21 (by decide) ?_
    refine j_callVV (As := [.int s0, .int (2 : Int32)]) (rest := []) C 64 (c_X6_needs h) (cwV 2 C.2.2.2.2.2.1 gX6_looked_X6_needs rfl rfl rfl hdX6_needs ⟨Nat.le_of_ble_eq_true rfl, Nat.le_of_ble_eq_true rfl⟩) rfl rfl rfl rfl (Nat.le_of_ble_eq_true rfl) dX6_looked_22 (fun σ1 h => ?_)
    exact j_sub (lv' := [(0, .ref (eA E 64)), (1, .int a1), (2, .int a2)]) [0, 1, 2] rfl h) (by
    intro σ h
    refine j_aload_n C 0 dX6_looked_25 rfl 0 rfl ?_
    refine j_getI C 64 15 rfl rfl rfl in_X6_looked_X6 (by decide) (by decide +kernel) dX6_looked_26 ?_
    refine j_if_ne C 49 dX6_looked_29 (by decide) (fun c2 => ?_) (fun c2 => ?_)
    · replace h := h.1 c2
      exact j_sub (lv' := [(0, .ref (eA E 64))]) [0] rfl h
    · replace h := h.2 c2
      refine j_aload_n C 0 dX6_looked_32 rfl 0 rfl ?_
      refine j_aload_n C 0 dX6_looked_33 rfl 0 rfl ?_
      refine j_getI C 64 14 rfl rfl rfl in_X6_looked_X6 (by decide) (by decide +kernel) dX6_looked_34 ?_
      refine j_i2l C dX6_looked_37 rfl ?_
      refine j_iload_n C 1 dX6_looked_38 rfl 1 rfl ?_
      refine j_i2l C dX6_looked_39 rfl ?_
      refine j_iload_n C 2 dX6_looked_40 rfl 2 rfl ?_
      refine j_i2l C dX6_looked_41 rfl ?_
      refine j_callSI (As := [.long ((σ.1 64 14)).toInt64, .long (a1).toInt64, .long (a2).toInt64]) (rest := [.ref (eA E 64)]) C (c_X6_in h) (va_cwS 3 C.2.2.2.2.2.1 gX6_looked_X6_in rfl rfl rfl hdX6_in.2 ⟨Nat.le_of_ble_eq_true rfl, Nat.le_of_ble_eq_true rfl⟩) rfl rfl (Nat.le_of_ble_eq_true rfl) dX6_looked_42 (fun r4 σ3 h => ?_)
      refine j_iconst (v := (3 : Int32)) C dX6_looked_45 (by decide) ?_
      refine j_callVV (As := [.int r4, .int (3 : Int32)]) (rest := []) C 64 (c_X6_needs h) (cwV 2 C.2.2.2.2.2.1 gX6_looked_X6_needs rfl rfl rfl hdX6_needs ⟨Nat.le_of_ble_eq_true rfl, Nat.le_of_ble_eq_true rfl⟩) rfl rfl rfl rfl (Nat.le_of_ble_eq_true rfl) dX6_looked_46 (fun σ5 h => ?_)
      exact j_sub (lv' := [(0, .ref (eA E 64))]) [0] rfl h) (by
    intro σ h
    refine j_aload_n C 0 dX6_looked_49 rfl 0 rfl ?_
    refine j_getI C 64 15 rfl rfl rfl in_X6_looked_X6 (by decide) (by decide +kernel) dX6_looked_50 ?_
    refine j_if_ne C 63 dX6_looked_53 (by decide) (fun c6 => ?_) (fun c6 => ?_)
    · replace h := h.1 c6
      refine j_iconst (v := (0 : Int32)) C dX6_looked_63 (by decide) ?_
      exact j_iret C dX6_looked_64 h
    · replace h := h.2 c6
      refine j_aload_n C 0 dX6_looked_56 rfl 0 rfl ?_
      refine j_getI C 64 14 rfl rfl rfl in_X6_looked_X6 (by decide) (by decide +kernel) dX6_looked_57 ?_
      refine j_goto C 64 dX6_looked_60 (by decide) ?_
      exact j_iret C dX6_looked_64 h)
  refine j_aload_n C 0 dX6_looked_0 rfl 0 rfl ?_
  refine j_getI C 64 15 rfl rfl rfl in_X6_looked_X6 (by decide) (by decide +kernel) dX6_looked_1 ?_
  refine j_if_ne C 25 dX6_looked_4 (by decide) (fun c7 => ?_) (fun c7 => ?_)
  · replace h := h.1 c7
    exact j_sub (lv' := [(0, .ref (eA E 64)), (1, .int a1), (2, .int a2)]) [0, 1, 2] rfl h
  · replace h := h.2 c7
    refine j_aload_n C 0 dX6_looked_7 rfl 0 rfl ?_
    refine j_aload_n C 0 dX6_looked_8 rfl 0 rfl ?_
    refine j_getI C 64 13 rfl rfl rfl in_X6_looked_X6 (by decide) (by decide +kernel) dX6_looked_9 ?_
    refine j_iconst (v := (2 : Int32)) C dX6_looked_12 (by decide) ?_
    refine j_icmp_ne C 20 dX6_looked_13 (by decide) (fun c8 => ?_) (fun c8 => ?_)
    · replace h := h.1 c8
      refine j_iconst (v := (0 : Int32)) C dX6_looked_20 (by decide) ?_
      exact j_sub (lv' := [(0, .ref (eA E 64)), (1, .int a1), (2, .int a2)]) [0, 1, 2] rfl h
    · replace h := h.2 c8
      refine j_iconst (v := (1 : Int32)) C dX6_looked_16 (by decide) ?_
      refine j_goto C 21 dX6_looked_17 (by decide) ?_
      exact j_sub (lv' := [(0, .ref (eA E 64)), (1, .int a1), (2, .int a2)]) [0, 1, 2] rfl h
def wp_X6_readNumber (a1 : Int32) (a2 : Int32) (σ : Mem) (Q : Int32 → Mem → Prop) : Prop :=
  wp_X6_looked a1 a2 σ (fun r2 σ1 => wp_X6_takes σ1 (fun σ3 => Q r2 σ3))
def rmX6_readNumber : Room := { frames := 2, cells := 0, slots := 0, locals := 47 }
theorem hdX6_readNumber : yX6_readNumber.cls = RX6 ∧ yX6_readNumber.cls ≠ "java/lang/invoke/MethodHandle" ∧ yX6_readNumber.cls ≠ "java/lang/invoke/VarHandle" ∧ (parseMethodDescriptor yX6_readNumber.desc).map (fun d => d.parameters.length) = some 2 := by decide +kernel
set_option maxHeartbeats 4000000 in
set_option maxRecDepth 100000 in
theorem c_X6_readNumber {l : Launch} {E : EE} {a1 : Int32} {a2 : Int32}  {σ : Mem} {Q : Int32 → Mem → Prop} (h : wp_X6_readNumber a1 a2 σ Q) : CtI l yX6_readNumber wsX6_readNumber rmX6_readNumber E [.ref (eA E 64), .int a1, .int a2] σ Q := by
  refine metI (cc := cX6_readNumber) (nL := 4) (ret := (some .int)) (lv := [(0, .ref (eA E 64)), (1, .int a1), (2, .int a2)]) (by decide) rfl (Nat.le_of_ble_eq_true rfl) rfl ?_
  intro p e s m args below meth c C
  unfold wp_X6_readNumber at h
  refine j_aload_n C 0 dX6_readNumber_0 rfl 0 rfl ?_
  refine j_iload_n C 1 dX6_readNumber_1 rfl 1 rfl ?_
  refine j_iload_n C 2 dX6_readNumber_2 rfl 2 rfl ?_
  refine j_callVI (As := [.int a1, .int a2]) (rest := []) C 64 (c_X6_looked h) (cwV 2 C.2.2.2.2.2.1 gX6_readNumber_X6_looked rfl rfl rfl hdX6_looked ⟨Nat.le_of_ble_eq_true rfl, Nat.le_of_ble_eq_true rfl⟩) rfl rfl rfl rfl (Nat.le_of_ble_eq_true rfl) dX6_readNumber_3 (fun r2 σ1 h => ?_)
  refine j_istore_n (lv' := [(3, .int r2), (0, .ref (eA E 64)), (1, .int a1), (2, .int a2)]) C 3 dX6_readNumber_6 rfl (by decide) rfl ?_
  refine j_aload_n C 0 dX6_readNumber_7 rfl 1 rfl ?_
  refine j_callVV (As := []) (rest := []) C 64 (c_X6_takes h) (cwV 0 C.2.2.2.2.2.1 gX6_readNumber_X6_takes rfl rfl rfl hdX6_takes ⟨Nat.le_of_ble_eq_true rfl, Nat.le_of_ble_eq_true rfl⟩) rfl rfl rfl rfl (Nat.le_of_ble_eq_true rfl) dX6_readNumber_8 (fun σ3 h => ?_)
  refine j_iload_n C 3 dX6_readNumber_11 rfl 0 rfl ?_
  exact j_iret C dX6_readNumber_12 h
def wp_X6_readTheLine (σ : Mem) (Q : Mem → Prop) : Prop :=
  ∀ (P0 : Mem → Prop) (P39 : Int32 → Int32 → Mem → Prop) (P99 : Int32 → Mem → Prop) (P102 : Mem → Prop),
  (∀ (σ : Mem), ((¬ (σ.1 64 15) = 0 → Q σ) ∧ ((σ.1 64 15) = 0 → (¬ (σ.1 64 13) = (2 : Int32) → Q σ) ∧ ((σ.1 64 13) = (2 : Int32) → wp_X6_looked (0 : Int32) (5 : Int32) σ (fun r4 σ3 => (¬ (((σ3.1 64 5) >>> (r4 &&& 31)) &&& (1 : Int32)) = 0 → P39 r4 (0 : Int32) σ3) ∧ ((((σ3.1 64 5) >>> (r4 &&& 31)) &&& (1 : Int32)) = 0 → P39 r4 (1 : Int32) σ3))))) → P0 σ) →
  (∀ (x1 : Int32) (s0 : Int32) (σ : Mem), (wp_X6_needs s0 (4 : Int32) σ (fun σ6 => (¬ (σ6.1 64 15) = 0 → P102 σ6) ∧ ((σ6.1 64 15) = 0 → ∀ σ8 : Mem, σ8 = st1 σ6 64 5 ((σ6.1 64 5) ||| ((1 : Int32) <<< (x1 &&& 31))) → vp_in (σ8.1 64 6) 6 ∧ (∀ σ9 : Mem, σ9 = st1 σ8 69 ((σ8.1 64 6)).toNatClampNeg x1 → ∀ σ10 : Mem, σ10 = st1 σ9 64 6 ((σ9.1 64 6) + (1 : Int32)) → (x1 ≤ (σ10.1 64 8) → P99 ((σ10.1 64 8)) σ10) ∧ (¬ x1 ≤ (σ10.1 64 8) → P99 x1 σ10))))) → P39 x1 s0 σ) →
  (∀ (s0 : Int32) (σ : Mem), (∀ σ12 : Mem, σ12 = st1 σ 64 8 s0 → P102 σ12) → P99 s0 σ) →
  (∀ (σ : Mem), (wp_X6_takes σ (fun σ13 => P0 σ13)) → P102 σ) →
  (¬ (σ.1 64 15) = 0 → Q σ) ∧ ((σ.1 64 15) = 0 → (¬ (σ.1 64 13) = (2 : Int32) → Q σ) ∧ ((σ.1 64 13) = (2 : Int32) → wp_X6_looked (0 : Int32) (5 : Int32) σ (fun r17 σ16 => (¬ (((σ16.1 64 5) >>> (r17 &&& 31)) &&& (1 : Int32)) = 0 → P39 r17 (0 : Int32) σ16) ∧ ((((σ16.1 64 5) >>> (r17 &&& 31)) &&& (1 : Int32)) = 0 → P39 r17 (1 : Int32) σ16))))
theorem in_X6_readTheLine_X6 : ∀ w ∈ wsX60, w ∈ wsX6_readTheLine := fun _ h => List.mem_cons_of_mem _ (List.mem_append_right _ h)
def rmX6_readTheLine : Room := { frames := 2, cells := 0, slots := 0, locals := 47 }
theorem hdX6_readTheLine : yX6_readTheLine.cls = RX6 ∧ yX6_readTheLine.cls ≠ "java/lang/invoke/MethodHandle" ∧ yX6_readTheLine.cls ≠ "java/lang/invoke/VarHandle" ∧ (parseMethodDescriptor yX6_readTheLine.desc).map (fun d => d.parameters.length) = some 0 := by decide +kernel
set_option maxHeartbeats 4000000 in
set_option maxRecDepth 100000 in
theorem c_X6_readTheLine {l : Launch} {E : EE}   {σ : Mem} {Q : Mem → Prop} (h : wp_X6_readTheLine  σ Q) : CtV l yX6_readTheLine wsX6_readTheLine rmX6_readTheLine E [.ref (eA E 64)] σ Q := by
  refine metV (cc := cX6_readTheLine) (nL := 2) (ret := none) (lv := [(0, .ref (eA E 64))]) (by decide) rfl (Nat.le_of_ble_eq_true rfl) rfl ?_
  intro p e s m args below meth c C
  unfold wp_X6_readTheLine at h
  replace h := h (fun (σ : Mem) => J E p l e rmX6_readTheLine s m args below meth c (QV E below args s Q) 2 0 [(0, .ref (eA E 64))] [] σ) (fun (x1 : Int32) (s0 : Int32) (σ : Mem) => J E p l e rmX6_readTheLine s m args below meth c (QV E below args s Q) 2 39 [(0, .ref (eA E 64)), (1, .int x1)] [.int s0, .ref (eA E 64)] σ) (fun (s0 : Int32) (σ : Mem) => J E p l e rmX6_readTheLine s m args below meth c (QV E below args s Q) 2 99 [(0, .ref (eA E 64))] [.int s0, .ref (eA E 64)] σ) (fun (σ : Mem) => J E p l e rmX6_readTheLine s m args below meth c (QV E below args s Q) 2 102 [(0, .ref (eA E 64))] [] σ) (by
    intro σ h
    refine j_aload_n C 0 dX6_readTheLine_0 rfl 0 rfl ?_
    refine j_getI C 64 15 rfl rfl rfl in_X6_readTheLine_X6 (by decide) (by decide +kernel) dX6_readTheLine_1 ?_
    refine j_if_ne C 109 dX6_readTheLine_4 (by decide) (fun c1 => ?_) (fun c1 => ?_)
    · replace h := h.1 c1
      exact j_vret C dX6_readTheLine_109 h
    · replace h := h.2 c1
      refine j_aload_n C 0 dX6_readTheLine_7 rfl 0 rfl ?_
      refine j_getI C 64 13 rfl rfl rfl in_X6_readTheLine_X6 (by decide) (by decide +kernel) dX6_readTheLine_8 ?_
      refine j_iconst (v := (2 : Int32)) C dX6_readTheLine_11 (by decide) ?_
      refine j_icmp_ne C 109 dX6_readTheLine_12 (by decide) (fun c2 => ?_) (fun c2 => ?_)
      · replace h := h.1 c2
        exact j_vret C dX6_readTheLine_109 h
      · replace h := h.2 c2
        refine j_aload_n C 0 dX6_readTheLine_15 rfl 0 rfl ?_
        refine j_iconst (v := (0 : Int32)) C dX6_readTheLine_16 (by decide) ?_
        refine j_iconst (v := (5 : Int32)) C dX6_readTheLine_17 (by decide) ?_
        refine j_callVI (As := [.int (0 : Int32), .int (5 : Int32)]) (rest := []) C 64 (c_X6_looked h) (cwV 2 C.2.2.2.2.2.1 gX6_readTheLine_X6_looked rfl rfl rfl hdX6_looked ⟨Nat.le_of_ble_eq_true rfl, Nat.le_of_ble_eq_true rfl⟩) rfl rfl rfl rfl (Nat.le_of_ble_eq_true rfl) dX6_readTheLine_18 (fun r4 σ3 h => ?_)
        refine j_istore_n (lv' := [(1, .int r4), (0, .ref (eA E 64))]) C 1 dX6_readTheLine_21 rfl (by decide) rfl ?_
        refine j_aload_n C 0 dX6_readTheLine_22 rfl 1 rfl ?_
        refine j_aload_n C 0 dX6_readTheLine_23 rfl 1 rfl ?_
        refine j_getI C 64 5 rfl rfl rfl in_X6_readTheLine_X6 (by decide) (by decide +kernel) dX6_readTheLine_24 ?_
        refine j_iload_n C 1 dX6_readTheLine_27 rfl 0 rfl ?_
        refine j_ishr C dX6_readTheLine_28 ?_
        refine j_iconst (v := (1 : Int32)) C dX6_readTheLine_29 (by decide) ?_
        refine j_iand C dX6_readTheLine_30 ?_
        refine j_if_ne C 38 dX6_readTheLine_31 (by decide) (fun c5 => ?_) (fun c5 => ?_)
        · replace h := h.1 c5
          refine j_iconst (v := (0 : Int32)) C dX6_readTheLine_38 (by decide) ?_
          exact j_sub (lv' := [(0, .ref (eA E 64)), (1, .int r4)]) [1, 0] rfl h
        · replace h := h.2 c5
          refine j_iconst (v := (1 : Int32)) C dX6_readTheLine_34 (by decide) ?_
          refine j_goto C 39 dX6_readTheLine_35 (by decide) ?_
          exact j_sub (lv' := [(0, .ref (eA E 64)), (1, .int r4)]) [1, 0] rfl h) (by
    intro x1 s0 σ h
    refine j_iconst (v := (4 : Int32)) C dX6_readTheLine_39 (by decide) ?_
    refine j_callVV (As := [.int s0, .int (4 : Int32)]) (rest := []) C 64 (c_X6_needs h) (cwV 2 C.2.2.2.2.2.1 gX6_readTheLine_X6_needs rfl rfl rfl hdX6_needs ⟨Nat.le_of_ble_eq_true rfl, Nat.le_of_ble_eq_true rfl⟩) rfl rfl rfl rfl (Nat.le_of_ble_eq_true rfl) dX6_readTheLine_40 (fun σ6 h => ?_)
    refine j_aload_n C 0 dX6_readTheLine_43 rfl 0 rfl ?_
    refine j_getI C 64 15 rfl rfl rfl in_X6_readTheLine_X6 (by decide) (by decide +kernel) dX6_readTheLine_44 ?_
    refine j_if_ne C 102 dX6_readTheLine_47 (by decide) (fun c7 => ?_) (fun c7 => ?_)
    · replace h := h.1 c7
      exact j_sub (lv' := [(0, .ref (eA E 64))]) [0] rfl h
    · replace h := h.2 c7
      refine j_aload_n C 0 dX6_readTheLine_50 rfl 0 rfl ?_
      refine j_dup C dX6_readTheLine_51 rfl ?_
      refine j_getI C 64 5 rfl rfl rfl in_X6_readTheLine_X6 (by decide) (by decide +kernel) dX6_readTheLine_52 ?_
      refine j_iconst (v := (1 : Int32)) C dX6_readTheLine_55 (by decide) ?_
      refine j_iload_n C 1 dX6_readTheLine_56 rfl 1 rfl ?_
      refine j_ishl C dX6_readTheLine_57 ?_
      refine j_ior C dX6_readTheLine_58 ?_
      refine j_put C 64 5 rfl rfl rfl in_X6_readTheLine_X6 tyX6 tyX6_ok nmX6 (by decide) (by decide +kernel) rfl rfl rfl rfl dX6_readTheLine_59 ?_
      refine j_mem (fun σ8 eσ8 => ?_)
      replace h := h σ8 eσ8
      refine j_aload_n C 0 dX6_readTheLine_62 rfl 0 rfl ?_
      refine j_getR C 69 64 7 rfl rfl rfl in_X6_readTheLine_X6 (by decide) (by decide +kernel) dX6_readTheLine_63 ?_
      refine j_aload_n C 0 dX6_readTheLine_66 rfl 0 rfl ?_
      refine j_getI C 64 6 rfl rfl rfl in_X6_readTheLine_X6 (by decide) (by decide +kernel) dX6_readTheLine_67 ?_
      refine j_iload_n C 1 dX6_readTheLine_70 rfl 1 rfl ?_
      refine j_iast C 69 rfl dX6_readTheLine_71 h.1 ?_
      replace h := h.2
      refine j_mem (fun σ9 eσ9 => ?_)
      replace h := h σ9 eσ9
      refine j_aload_n C 0 dX6_readTheLine_72 rfl 0 rfl ?_
      refine j_dup C dX6_readTheLine_73 rfl ?_
      refine j_getI C 64 6 rfl rfl rfl in_X6_readTheLine_X6 (by decide) (by decide +kernel) dX6_readTheLine_74 ?_
      refine j_iconst (v := (1 : Int32)) C dX6_readTheLine_77 (by decide) ?_
      refine j_iadd C dX6_readTheLine_78 ?_
      refine j_put C 64 6 rfl rfl rfl in_X6_readTheLine_X6 tyX6 tyX6_ok nmX6 (by decide) (by decide +kernel) rfl rfl rfl rfl dX6_readTheLine_79 ?_
      refine j_mem (fun σ10 eσ10 => ?_)
      replace h := h σ10 eσ10
      refine j_aload_n C 0 dX6_readTheLine_82 rfl 0 rfl ?_
      refine j_iload_n C 1 dX6_readTheLine_83 rfl 1 rfl ?_
      refine j_aload_n C 0 dX6_readTheLine_84 rfl 0 rfl ?_
      refine j_getI C 64 8 rfl rfl rfl in_X6_readTheLine_X6 (by decide) (by decide +kernel) dX6_readTheLine_85 ?_
      refine j_icmp_le C 95 dX6_readTheLine_88 (by decide) (fun c11 => ?_) (fun c11 => ?_)
      · replace h := h.1 c11
        refine j_aload_n C 0 dX6_readTheLine_95 rfl 0 rfl ?_
        refine j_getI C 64 8 rfl rfl rfl in_X6_readTheLine_X6 (by decide) (by decide +kernel) dX6_readTheLine_96 ?_
        exact j_sub (lv' := [(0, .ref (eA E 64))]) [0] rfl h
      · replace h := h.2 c11
        refine j_iload_n C 1 dX6_readTheLine_91 rfl 1 rfl ?_
        refine j_goto C 99 dX6_readTheLine_92 (by decide) ?_
        exact j_sub (lv' := [(0, .ref (eA E 64))]) [0] rfl h) (by
    intro s0 σ h
    refine j_put C 64 8 rfl rfl rfl in_X6_readTheLine_X6 tyX6 tyX6_ok nmX6 (by decide) (by decide +kernel) rfl rfl rfl rfl dX6_readTheLine_99 ?_
    refine j_mem (fun σ12 eσ12 => ?_)
    replace h := h σ12 eσ12
    exact j_sub (lv' := [(0, .ref (eA E 64))]) [0] rfl h) (by
    intro σ h
    refine j_aload_n C 0 dX6_readTheLine_102 rfl 0 rfl ?_
    refine j_callVV (As := []) (rest := []) C 64 (c_X6_takes h) (cwV 0 C.2.2.2.2.2.1 gX6_readTheLine_X6_takes rfl rfl rfl hdX6_takes ⟨Nat.le_of_ble_eq_true rfl, Nat.le_of_ble_eq_true rfl⟩) rfl rfl rfl rfl (Nat.le_of_ble_eq_true rfl) dX6_readTheLine_103 (fun σ13 h => ?_)
    refine j_goto C 0 dX6_readTheLine_106 (by decide) ?_
    exact j_sub (lv' := [(0, .ref (eA E 64))]) [0] rfl h)
  refine j_aload_n C 0 dX6_readTheLine_0 rfl 0 rfl ?_
  refine j_getI C 64 15 rfl rfl rfl in_X6_readTheLine_X6 (by decide) (by decide +kernel) dX6_readTheLine_1 ?_
  refine j_if_ne C 109 dX6_readTheLine_4 (by decide) (fun c14 => ?_) (fun c14 => ?_)
  · replace h := h.1 c14
    exact j_vret C dX6_readTheLine_109 h
  · replace h := h.2 c14
    refine j_aload_n C 0 dX6_readTheLine_7 rfl 0 rfl ?_
    refine j_getI C 64 13 rfl rfl rfl in_X6_readTheLine_X6 (by decide) (by decide +kernel) dX6_readTheLine_8 ?_
    refine j_iconst (v := (2 : Int32)) C dX6_readTheLine_11 (by decide) ?_
    refine j_icmp_ne C 109 dX6_readTheLine_12 (by decide) (fun c15 => ?_) (fun c15 => ?_)
    · replace h := h.1 c15
      exact j_vret C dX6_readTheLine_109 h
    · replace h := h.2 c15
      refine j_aload_n C 0 dX6_readTheLine_15 rfl 0 rfl ?_
      refine j_iconst (v := (0 : Int32)) C dX6_readTheLine_16 (by decide) ?_
      refine j_iconst (v := (5 : Int32)) C dX6_readTheLine_17 (by decide) ?_
      refine j_callVI (As := [.int (0 : Int32), .int (5 : Int32)]) (rest := []) C 64 (c_X6_looked h) (cwV 2 C.2.2.2.2.2.1 gX6_readTheLine_X6_looked rfl rfl rfl hdX6_looked ⟨Nat.le_of_ble_eq_true rfl, Nat.le_of_ble_eq_true rfl⟩) rfl rfl rfl rfl (Nat.le_of_ble_eq_true rfl) dX6_readTheLine_18 (fun r17 σ16 h => ?_)
      refine j_istore_n (lv' := [(1, .int r17), (0, .ref (eA E 64))]) C 1 dX6_readTheLine_21 rfl (by decide) rfl ?_
      refine j_aload_n C 0 dX6_readTheLine_22 rfl 1 rfl ?_
      refine j_aload_n C 0 dX6_readTheLine_23 rfl 1 rfl ?_
      refine j_getI C 64 5 rfl rfl rfl in_X6_readTheLine_X6 (by decide) (by decide +kernel) dX6_readTheLine_24 ?_
      refine j_iload_n C 1 dX6_readTheLine_27 rfl 0 rfl ?_
      refine j_ishr C dX6_readTheLine_28 ?_
      refine j_iconst (v := (1 : Int32)) C dX6_readTheLine_29 (by decide) ?_
      refine j_iand C dX6_readTheLine_30 ?_
      refine j_if_ne C 38 dX6_readTheLine_31 (by decide) (fun c18 => ?_) (fun c18 => ?_)
      · replace h := h.1 c18
        refine j_iconst (v := (0 : Int32)) C dX6_readTheLine_38 (by decide) ?_
        exact j_sub (lv' := [(0, .ref (eA E 64)), (1, .int r17)]) [1, 0] rfl h
      · replace h := h.2 c18
        refine j_iconst (v := (1 : Int32)) C dX6_readTheLine_34 (by decide) ?_
        refine j_goto C 39 dX6_readTheLine_35 (by decide) ?_
        exact j_sub (lv' := [(0, .ref (eA E 64)), (1, .int r17)]) [1, 0] rfl h
def wp_X6_readLineOf (a1 : Int32) (σ : Mem) (Q : Mem → Prop) : Prop :=
  (a1 = (4 : Int32) → wp_X6_readTheLine σ (fun σ2 => Q σ2)) ∧ (a1 = (5 : Int32) → wp_X6_readNumber (0 : Int32) (9 : Int32) σ (fun r5 σ4 => ∀ σ6 : Mem, σ6 = st1 σ4 68 ((31 : Int32)).toNatClampNeg r5 → Q σ6)) ∧ (a1 = (6 : Int32) → wp_X6_readNumber (0 : Int32) (99 : Int32) σ (fun r9 σ8 => ∀ σ10 : Mem, σ10 = st1 σ8 68 ((32 : Int32)).toNatClampNeg r9 → Q σ10)) ∧ (¬ a1 = (4 : Int32) → ¬ a1 = (5 : Int32) → ¬ a1 = (6 : Int32) → vp_in (((4 : Int32) * (σ.1 68 ((24 : Int32)).toNatClampNeg)) + (0 : Int32)) 49 ∧ (∀ σ11 : Mem, σ11 = st1 σ 68 ((((4 : Int32) * (σ.1 68 ((24 : Int32)).toNatClampNeg)) + (0 : Int32))).toNatClampNeg a1 → wp_X6_readNumber (0 : Int32) (20 : Int32) σ11 (fun r13 σ12 => vp_in (((4 : Int32) * (σ11.1 68 ((24 : Int32)).toNatClampNeg)) + (1 : Int32)) 49 ∧ (∀ σ14 : Mem, σ14 = st1 σ12 68 ((((4 : Int32) * (σ11.1 68 ((24 : Int32)).toNatClampNeg)) + (1 : Int32))).toNatClampNeg r13 → wp_X6_readNumber (1 : Int32) (20 : Int32) σ14 (fun r16 σ15 => vp_in (((4 : Int32) * (σ14.1 68 ((24 : Int32)).toNatClampNeg)) + (2 : Int32)) 49 ∧ (∀ σ17 : Mem, σ17 = st1 σ15 68 ((((4 : Int32) * (σ14.1 68 ((24 : Int32)).toNatClampNeg)) + (2 : Int32))).toNatClampNeg r16 → wp_X6_readNumber (1 : Int32) (30 : Int32) σ17 (fun r19 σ18 => vp_in (((4 : Int32) * (σ17.1 68 ((24 : Int32)).toNatClampNeg)) + (3 : Int32)) 49 ∧ (∀ σ20 : Mem, σ20 = st1 σ18 68 ((((4 : Int32) * (σ17.1 68 ((24 : Int32)).toNatClampNeg)) + (3 : Int32))).toNatClampNeg r19 → ∀ σ21 : Mem, σ21 = st1 σ20 68 ((24 : Int32)).toNatClampNeg ((σ20.1 68 ((24 : Int32)).toNatClampNeg) + (1 : Int32)) → Q σ21))))))))
theorem in_X6_readLineOf_X6 : ∀ w ∈ wsX60, w ∈ wsX6_readLineOf := fun _ h => List.mem_cons_of_mem _ (List.mem_append_right _ h)
def rmX6_readLineOf : Room := { frames := 3, cells := 0, slots := 0, locals := 70 }
theorem hdX6_readLineOf : yX6_readLineOf.cls = RX6 ∧ yX6_readLineOf.cls ≠ "java/lang/invoke/MethodHandle" ∧ yX6_readLineOf.cls ≠ "java/lang/invoke/VarHandle" ∧ (parseMethodDescriptor yX6_readLineOf.desc).map (fun d => d.parameters.length) = some 1 := by decide +kernel
set_option maxHeartbeats 4000000 in
set_option maxRecDepth 100000 in
theorem c_X6_readLineOf {l : Launch} {E : EE} {a1 : Int32}  {σ : Mem} {Q : Mem → Prop} (h : wp_X6_readLineOf a1 σ Q) : CtV l yX6_readLineOf wsX6_readLineOf rmX6_readLineOf E [.ref (eA E 64), .int a1] σ Q := by
  refine metV (cc := cX6_readLineOf) (nL := 2) (ret := none) (lv := [(0, .ref (eA E 64)), (1, .int a1)]) (by decide) rfl (Nat.le_of_ble_eq_true rfl) rfl ?_
  intro p e s m args below meth c C
  unfold wp_X6_readLineOf at h
  refine j_iload_n C 1 dX6_readLineOf_0 rfl 1 rfl ?_
  by_cases c1 : a1 = (4 : Int32)
  · replace h := h.1 c1
    refine j_tabIn (off := 27) C 28 dX6_readLineOf_1 (4 : Int32) c1 (by decide) (by decide) (by decide) (by decide) ?_
    refine j_aload_n C 0 dX6_readLineOf_28 rfl 0 rfl ?_
    refine j_callVV (As := []) (rest := []) C 64 (c_X6_readTheLine h) (cwV 0 C.2.2.2.2.2.1 gX6_readLineOf_X6_readTheLine rfl rfl rfl hdX6_readTheLine ⟨Nat.le_of_ble_eq_true rfl, Nat.le_of_ble_eq_true rfl⟩) rfl rfl rfl rfl (Nat.le_of_ble_eq_true rfl) dX6_readLineOf_29 (fun σ2 h => ?_)
    refine j_goto C 166 dX6_readLineOf_32 (by decide) ?_
    exact j_vret C dX6_readLineOf_166 h
  by_cases c3 : a1 = (5 : Int32)
  · replace h := h.2.1 c3
    refine j_tabIn (off := 34) C 35 dX6_readLineOf_1 (5 : Int32) c3 (by decide) (by decide) (by decide) (by decide) ?_
    refine j_aload_n C 0 dX6_readLineOf_35 rfl 0 rfl ?_
    refine j_getR C 68 64 3 rfl rfl rfl in_X6_readLineOf_X6 (by decide) (by decide +kernel) dX6_readLineOf_36 ?_
    refine j_bipush (v := (31 : Int32)) C dX6_readLineOf_39 (by decide) ?_
    refine j_aload_n C 0 dX6_readLineOf_41 rfl 0 rfl ?_
    refine j_iconst (v := (0 : Int32)) C dX6_readLineOf_42 (by decide) ?_
    refine j_bipush (v := (9 : Int32)) C dX6_readLineOf_43 (by decide) ?_
    refine j_callVI (As := [.int (0 : Int32), .int (9 : Int32)]) (rest := [.int (31 : Int32), .ref (eA E 68)]) C 64 (c_X6_readNumber h) (cwV 2 C.2.2.2.2.2.1 gX6_readLineOf_X6_readNumber rfl rfl rfl hdX6_readNumber ⟨Nat.le_of_ble_eq_true rfl, Nat.le_of_ble_eq_true rfl⟩) rfl rfl rfl rfl (Nat.le_of_ble_eq_true rfl) dX6_readLineOf_45 (fun r5 σ4 h => ?_)
    refine j_iast C 68 rfl dX6_readLineOf_48 (in_lit rfl) ?_
    refine j_mem (fun σ6 eσ6 => ?_)
    replace h := h σ6 eσ6
    refine j_goto C 166 dX6_readLineOf_49 (by decide) ?_
    exact j_vret C dX6_readLineOf_166 h
  by_cases c7 : a1 = (6 : Int32)
  · replace h := h.2.2.1 c7
    refine j_tabIn (off := 51) C 52 dX6_readLineOf_1 (6 : Int32) c7 (by decide) (by decide) (by decide) (by decide) ?_
    refine j_aload_n C 0 dX6_readLineOf_52 rfl 0 rfl ?_
    refine j_getR C 68 64 3 rfl rfl rfl in_X6_readLineOf_X6 (by decide) (by decide +kernel) dX6_readLineOf_53 ?_
    refine j_bipush (v := (32 : Int32)) C dX6_readLineOf_56 (by decide) ?_
    refine j_aload_n C 0 dX6_readLineOf_58 rfl 0 rfl ?_
    refine j_iconst (v := (0 : Int32)) C dX6_readLineOf_59 (by decide) ?_
    refine j_bipush (v := (99 : Int32)) C dX6_readLineOf_60 (by decide) ?_
    refine j_callVI (As := [.int (0 : Int32), .int (99 : Int32)]) (rest := [.int (32 : Int32), .ref (eA E 68)]) C 64 (c_X6_readNumber h) (cwV 2 C.2.2.2.2.2.1 gX6_readLineOf_X6_readNumber rfl rfl rfl hdX6_readNumber ⟨Nat.le_of_ble_eq_true rfl, Nat.le_of_ble_eq_true rfl⟩) rfl rfl rfl rfl (Nat.le_of_ble_eq_true rfl) dX6_readLineOf_62 (fun r9 σ8 h => ?_)
    refine j_iast C 68 rfl dX6_readLineOf_65 (in_lit rfl) ?_
    refine j_mem (fun σ10 eσ10 => ?_)
    replace h := h σ10 eσ10
    refine j_goto C 166 dX6_readLineOf_66 (by decide) ?_
    exact j_vret C dX6_readLineOf_166 h
  replace h := h.2.2.2 c1 c3 c7
  refine j_tabOut C 69 dX6_readLineOf_1 (tab_out (lo := 4) (hi := 6) (fun v h1 h2 => by rcases (show v = 4 ∨ v = 5 ∨ v = 6 by omega) with rfl | rfl | rfl <;> assumption)) (by decide) ?_
  refine j_aload_n C 0 dX6_readLineOf_69 rfl 0 rfl ?_
  refine j_getR C 68 64 3 rfl rfl rfl in_X6_readLineOf_X6 (by decide) (by decide +kernel) dX6_readLineOf_70 ?_
  refine j_iconst (v := (4 : Int32)) C dX6_readLineOf_73 (by decide) ?_
  refine j_aload_n C 0 dX6_readLineOf_74 rfl 0 rfl ?_
  refine j_getR C 68 64 3 rfl rfl rfl in_X6_readLineOf_X6 (by decide) (by decide +kernel) dX6_readLineOf_75 ?_
  refine j_bipush (v := (24 : Int32)) C dX6_readLineOf_78 (by decide) ?_
  refine j_iald C 68 rfl dX6_readLineOf_80 (in_lit rfl) ?_
  refine j_imul C dX6_readLineOf_81 ?_
  refine j_iconst (v := (0 : Int32)) C dX6_readLineOf_82 (by decide) ?_
  refine j_iadd C dX6_readLineOf_83 ?_
  refine j_iload_n C 1 dX6_readLineOf_84 rfl 1 rfl ?_
  refine j_iast C 68 rfl dX6_readLineOf_85 h.1 ?_
  replace h := h.2
  refine j_mem (fun σ11 eσ11 => ?_)
  replace h := h σ11 eσ11
  refine j_aload_n C 0 dX6_readLineOf_86 rfl 0 rfl ?_
  refine j_getR C 68 64 3 rfl rfl rfl in_X6_readLineOf_X6 (by decide) (by decide +kernel) dX6_readLineOf_87 ?_
  refine j_iconst (v := (4 : Int32)) C dX6_readLineOf_90 (by decide) ?_
  refine j_aload_n C 0 dX6_readLineOf_91 rfl 0 rfl ?_
  refine j_getR C 68 64 3 rfl rfl rfl in_X6_readLineOf_X6 (by decide) (by decide +kernel) dX6_readLineOf_92 ?_
  refine j_bipush (v := (24 : Int32)) C dX6_readLineOf_95 (by decide) ?_
  refine j_iald C 68 rfl dX6_readLineOf_97 (in_lit rfl) ?_
  refine j_imul C dX6_readLineOf_98 ?_
  refine j_iconst (v := (1 : Int32)) C dX6_readLineOf_99 (by decide) ?_
  refine j_iadd C dX6_readLineOf_100 ?_
  refine j_aload_n C 0 dX6_readLineOf_101 rfl 0 rfl ?_
  refine j_iconst (v := (0 : Int32)) C dX6_readLineOf_102 (by decide) ?_
  refine j_bipush (v := (20 : Int32)) C dX6_readLineOf_103 (by decide) ?_
  refine j_callVI (As := [.int (0 : Int32), .int (20 : Int32)]) (rest := [.int (((4 : Int32) * (σ11.1 68 ((24 : Int32)).toNatClampNeg)) + (1 : Int32)), .ref (eA E 68)]) C 64 (c_X6_readNumber h) (cwV 2 C.2.2.2.2.2.1 gX6_readLineOf_X6_readNumber rfl rfl rfl hdX6_readNumber ⟨Nat.le_of_ble_eq_true rfl, Nat.le_of_ble_eq_true rfl⟩) rfl rfl rfl rfl (Nat.le_of_ble_eq_true rfl) dX6_readLineOf_105 (fun r13 σ12 h => ?_)
  refine j_iast C 68 rfl dX6_readLineOf_108 h.1 ?_
  replace h := h.2
  refine j_mem (fun σ14 eσ14 => ?_)
  replace h := h σ14 eσ14
  refine j_aload_n C 0 dX6_readLineOf_109 rfl 0 rfl ?_
  refine j_getR C 68 64 3 rfl rfl rfl in_X6_readLineOf_X6 (by decide) (by decide +kernel) dX6_readLineOf_110 ?_
  refine j_iconst (v := (4 : Int32)) C dX6_readLineOf_113 (by decide) ?_
  refine j_aload_n C 0 dX6_readLineOf_114 rfl 0 rfl ?_
  refine j_getR C 68 64 3 rfl rfl rfl in_X6_readLineOf_X6 (by decide) (by decide +kernel) dX6_readLineOf_115 ?_
  refine j_bipush (v := (24 : Int32)) C dX6_readLineOf_118 (by decide) ?_
  refine j_iald C 68 rfl dX6_readLineOf_120 (in_lit rfl) ?_
  refine j_imul C dX6_readLineOf_121 ?_
  refine j_iconst (v := (2 : Int32)) C dX6_readLineOf_122 (by decide) ?_
  refine j_iadd C dX6_readLineOf_123 ?_
  refine j_aload_n C 0 dX6_readLineOf_124 rfl 0 rfl ?_
  refine j_iconst (v := (1 : Int32)) C dX6_readLineOf_125 (by decide) ?_
  refine j_bipush (v := (20 : Int32)) C dX6_readLineOf_126 (by decide) ?_
  refine j_callVI (As := [.int (1 : Int32), .int (20 : Int32)]) (rest := [.int (((4 : Int32) * (σ14.1 68 ((24 : Int32)).toNatClampNeg)) + (2 : Int32)), .ref (eA E 68)]) C 64 (c_X6_readNumber h) (cwV 2 C.2.2.2.2.2.1 gX6_readLineOf_X6_readNumber rfl rfl rfl hdX6_readNumber ⟨Nat.le_of_ble_eq_true rfl, Nat.le_of_ble_eq_true rfl⟩) rfl rfl rfl rfl (Nat.le_of_ble_eq_true rfl) dX6_readLineOf_128 (fun r16 σ15 h => ?_)
  refine j_iast C 68 rfl dX6_readLineOf_131 h.1 ?_
  replace h := h.2
  refine j_mem (fun σ17 eσ17 => ?_)
  replace h := h σ17 eσ17
  refine j_aload_n C 0 dX6_readLineOf_132 rfl 0 rfl ?_
  refine j_getR C 68 64 3 rfl rfl rfl in_X6_readLineOf_X6 (by decide) (by decide +kernel) dX6_readLineOf_133 ?_
  refine j_iconst (v := (4 : Int32)) C dX6_readLineOf_136 (by decide) ?_
  refine j_aload_n C 0 dX6_readLineOf_137 rfl 0 rfl ?_
  refine j_getR C 68 64 3 rfl rfl rfl in_X6_readLineOf_X6 (by decide) (by decide +kernel) dX6_readLineOf_138 ?_
  refine j_bipush (v := (24 : Int32)) C dX6_readLineOf_141 (by decide) ?_
  refine j_iald C 68 rfl dX6_readLineOf_143 (in_lit rfl) ?_
  refine j_imul C dX6_readLineOf_144 ?_
  refine j_iconst (v := (3 : Int32)) C dX6_readLineOf_145 (by decide) ?_
  refine j_iadd C dX6_readLineOf_146 ?_
  refine j_aload_n C 0 dX6_readLineOf_147 rfl 0 rfl ?_
  refine j_iconst (v := (1 : Int32)) C dX6_readLineOf_148 (by decide) ?_
  refine j_bipush (v := (30 : Int32)) C dX6_readLineOf_149 (by decide) ?_
  refine j_callVI (As := [.int (1 : Int32), .int (30 : Int32)]) (rest := [.int (((4 : Int32) * (σ17.1 68 ((24 : Int32)).toNatClampNeg)) + (3 : Int32)), .ref (eA E 68)]) C 64 (c_X6_readNumber h) (cwV 2 C.2.2.2.2.2.1 gX6_readLineOf_X6_readNumber rfl rfl rfl hdX6_readNumber ⟨Nat.le_of_ble_eq_true rfl, Nat.le_of_ble_eq_true rfl⟩) rfl rfl rfl rfl (Nat.le_of_ble_eq_true rfl) dX6_readLineOf_151 (fun r19 σ18 h => ?_)
  refine j_iast C 68 rfl dX6_readLineOf_154 h.1 ?_
  replace h := h.2
  refine j_mem (fun σ20 eσ20 => ?_)
  replace h := h σ20 eσ20
  refine j_aload_n C 0 dX6_readLineOf_155 rfl 0 rfl ?_
  refine j_getR C 68 64 3 rfl rfl rfl in_X6_readLineOf_X6 (by decide) (by decide +kernel) dX6_readLineOf_156 ?_
  refine j_bipush (v := (24 : Int32)) C dX6_readLineOf_159 (by decide) ?_
  refine j_dup2 C dX6_readLineOf_161 rfl rfl ?_
  refine j_iald C 68 rfl dX6_readLineOf_162 (in_lit rfl) ?_
  refine j_iconst (v := (1 : Int32)) C dX6_readLineOf_163 (by decide) ?_
  refine j_iadd C dX6_readLineOf_164 ?_
  refine j_iast C 68 rfl dX6_readLineOf_165 (in_lit rfl) ?_
  refine j_mem (fun σ21 eσ21 => ?_)
  replace h := h σ21 eσ21
  exact j_vret C dX6_readLineOf_166 h
def wp_X6_readLine (σ : Mem) (Q : Mem → Prop) : Prop :=
  ∀ (P17 : Int32 → Mem → Prop) (P30 : Int32 → Int32 → Mem → Prop) (P52 : Int32 → Mem → Prop) (P57 : Int32 → Int32 → Mem → Prop) (P90 : Int32 → Int32 → Mem → Prop) (P106 : Int32 → Mem → Prop) (P144 : Int32 → Mem → Prop) (P148 : Mem → Prop),
  (∀ (s0 : Int32) (σ : Mem), ((s0 = (-4 : Int32) → P30 s0 (0 : Int32) σ) ∧ (¬ s0 = (-4 : Int32) → P30 s0 (1 : Int32) σ)) → P17 s0 σ) →
  (∀ (x1 : Int32) (s0 : Int32) (σ : Mem), (wp_X6_needs s0 (2 : Int32) σ (fun σ2 => ((4 : Int32) ≤ x1 → P52 x1 σ2) ∧ (¬ (4 : Int32) ≤ x1 → ((6 : Int32) ≤ (σ2.1 68 ((24 : Int32)).toNatClampNeg) → P57 x1 (0 : Int32) σ2) ∧ (¬ (6 : Int32) ≤ (σ2.1 68 ((24 : Int32)).toNatClampNeg) → P52 x1 σ2)))) → P30 x1 s0 σ) →
  (∀ (x1 : Int32) (σ : Mem), (P57 x1 (1 : Int32) σ) → P52 x1 σ) →
  (∀ (x1 : Int32) (s0 : Int32) (σ : Mem), (wp_X6_needs s0 (5 : Int32) σ (fun σ5 => (¬ (σ5.1 64 15) = 0 → P106 x1 σ5) ∧ ((σ5.1 64 15) = 0 → (x1 < (4 : Int32) → P106 x1 σ5) ∧ (¬ x1 < (4 : Int32) → (¬ (((σ5.1 64 4) >>> (x1 &&& 31)) &&& (1 : Int32)) = 0 → P90 x1 (0 : Int32) σ5) ∧ ((((σ5.1 64 4) >>> (x1 &&& 31)) &&& (1 : Int32)) = 0 → P90 x1 (1 : Int32) σ5))))) → P57 x1 s0 σ) →
  (∀ (x1 : Int32) (s0 : Int32) (σ : Mem), (wp_X6_needs s0 (4 : Int32) σ (fun σ9 => ∀ σ10 : Mem, σ10 = st1 σ9 64 4 ((σ9.1 64 4) ||| ((1 : Int32) <<< (x1 &&& 31))) → P106 x1 σ10)) → P90 x1 s0 σ) →
  (∀ (x1 : Int32) (σ : Mem), (wp_X6_takes σ (fun σ11 => ((σ11.1 64 15) ≤ 0 → wp_X6_readLineOf x1 σ11 (fun σ13 => (¬ (σ13.1 64 15) = 0 → P148 σ13) ∧ ((σ13.1 64 15) = 0 → (¬ (σ13.1 64 13) = (3 : Int32) → P144 (0 : Int32) σ13) ∧ ((σ13.1 64 13) = (3 : Int32) → P144 (1 : Int32) σ13)))) ∧ (¬ (σ11.1 64 15) ≤ 0 → Q σ11))) → P106 x1 σ) →
  (∀ (s0 : Int32) (σ : Mem), (wp_X6_needs s0 (2 : Int32) σ (fun σ16 => P148 σ16)) → P144 s0 σ) →
  (∀ (σ : Mem), (wp_X6_takes σ (fun σ17 => Q σ17)) → P148 σ) →
  (¬ (σ.1 64 13) = (1 : Int32) → P17 (-4 : Int32) σ) ∧ ((σ.1 64 13) = (1 : Int32) → wp_X6_lineNow σ (fun r20 σ19 => P17 r20 σ19))
theorem in_X6_readLine_X6 : ∀ w ∈ wsX60, w ∈ wsX6_readLine := fun _ h => List.mem_cons_of_mem _ (List.mem_append_right _ h)
def rmX6_readLine : Room := { frames := 4, cells := 0, slots := 0, locals := 91 }
theorem hdX6_readLine : yX6_readLine.cls = RX6 ∧ yX6_readLine.cls ≠ "java/lang/invoke/MethodHandle" ∧ yX6_readLine.cls ≠ "java/lang/invoke/VarHandle" ∧ (parseMethodDescriptor yX6_readLine.desc).map (fun d => d.parameters.length) = some 0 := by decide +kernel
set_option maxHeartbeats 4000000 in
set_option maxRecDepth 100000 in
theorem c_X6_readLine {l : Launch} {E : EE}   {σ : Mem} {Q : Mem → Prop} (h : wp_X6_readLine  σ Q) : CtV l yX6_readLine wsX6_readLine rmX6_readLine E [.ref (eA E 64)] σ Q := by
  refine metV (cc := cX6_readLine) (nL := 2) (ret := none) (lv := [(0, .ref (eA E 64))]) (by decide) rfl (Nat.le_of_ble_eq_true rfl) rfl ?_
  intro p e s m args below meth c C
  unfold wp_X6_readLine at h
  replace h := h (fun (s0 : Int32) (σ : Mem) => J E p l e rmX6_readLine s m args below meth c (QV E below args s Q) 2 17 [(0, .ref (eA E 64))] [.int s0] σ) (fun (x1 : Int32) (s0 : Int32) (σ : Mem) => J E p l e rmX6_readLine s m args below meth c (QV E below args s Q) 2 30 [(0, .ref (eA E 64)), (1, .int x1)] [.int s0, .ref (eA E 64)] σ) (fun (x1 : Int32) (σ : Mem) => J E p l e rmX6_readLine s m args below meth c (QV E below args s Q) 2 52 [(0, .ref (eA E 64)), (1, .int x1)] [.ref (eA E 64)] σ) (fun (x1 : Int32) (s0 : Int32) (σ : Mem) => J E p l e rmX6_readLine s m args below meth c (QV E below args s Q) 2 57 [(0, .ref (eA E 64)), (1, .int x1)] [.int s0, .ref (eA E 64)] σ) (fun (x1 : Int32) (s0 : Int32) (σ : Mem) => J E p l e rmX6_readLine s m args below meth c (QV E below args s Q) 2 90 [(0, .ref (eA E 64)), (1, .int x1)] [.int s0, .ref (eA E 64)] σ) (fun (x1 : Int32) (σ : Mem) => J E p l e rmX6_readLine s m args below meth c (QV E below args s Q) 2 106 [(0, .ref (eA E 64)), (1, .int x1)] [] σ) (fun (s0 : Int32) (σ : Mem) => J E p l e rmX6_readLine s m args below meth c (QV E below args s Q) 2 144 [(0, .ref (eA E 64))] [.int s0, .ref (eA E 64)] σ) (fun (σ : Mem) => J E p l e rmX6_readLine s m args below meth c (QV E below args s Q) 2 148 [(0, .ref (eA E 64))] [] σ) (by
    intro s0 σ h
    refine j_istore_n (lv' := [(1, .int s0), (0, .ref (eA E 64))]) C 1 dX6_readLine_17 rfl (by decide) rfl ?_
    refine j_aload_n C 0 dX6_readLine_18 rfl 1 rfl ?_
    refine j_iload_n C 1 dX6_readLine_19 rfl 0 rfl ?_
    refine j_bipush (v := (-4 : Int32)) C dX6_readLine_20 (by decide) ?_
    refine j_icmp_eq C 29 dX6_readLine_22 (by decide) (fun c1 => ?_) (fun c1 => ?_)
    · replace h := h.1 c1
      refine j_iconst (v := (0 : Int32)) C dX6_readLine_29 (by decide) ?_
      exact j_sub (lv' := [(0, .ref (eA E 64)), (1, .int s0)]) [1, 0] rfl h
    · replace h := h.2 c1
      refine j_iconst (v := (1 : Int32)) C dX6_readLine_25 (by decide) ?_
      refine j_goto C 30 dX6_readLine_26 (by decide) ?_
      exact j_sub (lv' := [(0, .ref (eA E 64)), (1, .int s0)]) [1, 0] rfl h) (by
    intro x1 s0 σ h
    refine j_iconst (v := (2 : Int32)) C dX6_readLine_30 (by decide) ?_
    refine j_callVV (As := [.int s0, .int (2 : Int32)]) (rest := []) C 64 (c_X6_needs h) (cwV 2 C.2.2.2.2.2.1 gX6_readLine_X6_needs rfl rfl rfl hdX6_needs ⟨Nat.le_of_ble_eq_true rfl, Nat.le_of_ble_eq_true rfl⟩) rfl rfl rfl rfl (Nat.le_of_ble_eq_true rfl) dX6_readLine_31 (fun σ2 h => ?_)
    refine j_aload_n C 0 dX6_readLine_34 rfl 0 rfl ?_
    refine j_iload_n C 1 dX6_readLine_35 rfl 1 rfl ?_
    refine j_iconst (v := (4 : Int32)) C dX6_readLine_36 (by decide) ?_
    refine j_icmp_ge C 52 dX6_readLine_37 (by decide) (fun c3 => ?_) (fun c3 => ?_)
    · replace h := h.1 c3
      exact j_sub (lv' := [(0, .ref (eA E 64)), (1, .int x1)]) [0, 1] rfl h
    · replace h := h.2 c3
      refine j_aload_n C 0 dX6_readLine_40 rfl 0 rfl ?_
      refine j_getR C 68 64 3 rfl rfl rfl in_X6_readLine_X6 (by decide) (by decide +kernel) dX6_readLine_41 ?_
      refine j_bipush (v := (24 : Int32)) C dX6_readLine_44 (by decide) ?_
      refine j_iald C 68 rfl dX6_readLine_46 (in_lit rfl) ?_
      refine j_bipush (v := (6 : Int32)) C dX6_readLine_47 (by decide) ?_
      refine j_icmp_ge C 56 dX6_readLine_49 (by decide) (fun c4 => ?_) (fun c4 => ?_)
      · replace h := h.1 c4
        refine j_iconst (v := (0 : Int32)) C dX6_readLine_56 (by decide) ?_
        exact j_sub (lv' := [(0, .ref (eA E 64)), (1, .int x1)]) [0, 1] rfl h
      · replace h := h.2 c4
        exact j_sub (lv' := [(0, .ref (eA E 64)), (1, .int x1)]) [0, 1] rfl h) (by
    intro x1 σ h
    refine j_iconst (v := (1 : Int32)) C dX6_readLine_52 (by decide) ?_
    refine j_goto C 57 dX6_readLine_53 (by decide) ?_
    exact j_sub (lv' := [(0, .ref (eA E 64)), (1, .int x1)]) [0, 1] rfl h) (by
    intro x1 s0 σ h
    refine j_iconst (v := (5 : Int32)) C dX6_readLine_57 (by decide) ?_
    refine j_callVV (As := [.int s0, .int (5 : Int32)]) (rest := []) C 64 (c_X6_needs h) (cwV 2 C.2.2.2.2.2.1 gX6_readLine_X6_needs rfl rfl rfl hdX6_needs ⟨Nat.le_of_ble_eq_true rfl, Nat.le_of_ble_eq_true rfl⟩) rfl rfl rfl rfl (Nat.le_of_ble_eq_true rfl) dX6_readLine_58 (fun σ5 h => ?_)
    refine j_aload_n C 0 dX6_readLine_61 rfl 0 rfl ?_
    refine j_getI C 64 15 rfl rfl rfl in_X6_readLine_X6 (by decide) (by decide +kernel) dX6_readLine_62 ?_
    refine j_if_ne C 106 dX6_readLine_65 (by decide) (fun c6 => ?_) (fun c6 => ?_)
    · replace h := h.1 c6
      exact j_sub (lv' := [(0, .ref (eA E 64)), (1, .int x1)]) [0, 1] rfl h
    · replace h := h.2 c6
      refine j_iload_n C 1 dX6_readLine_68 rfl 1 rfl ?_
      refine j_iconst (v := (4 : Int32)) C dX6_readLine_69 (by decide) ?_
      refine j_icmp_lt C 106 dX6_readLine_70 (by decide) (fun c7 => ?_) (fun c7 => ?_)
      · replace h := h.1 c7
        exact j_sub (lv' := [(0, .ref (eA E 64)), (1, .int x1)]) [0, 1] rfl h
      · replace h := h.2 c7
        refine j_aload_n C 0 dX6_readLine_73 rfl 0 rfl ?_
        refine j_aload_n C 0 dX6_readLine_74 rfl 0 rfl ?_
        refine j_getI C 64 4 rfl rfl rfl in_X6_readLine_X6 (by decide) (by decide +kernel) dX6_readLine_75 ?_
        refine j_iload_n C 1 dX6_readLine_78 rfl 1 rfl ?_
        refine j_ishr C dX6_readLine_79 ?_
        refine j_iconst (v := (1 : Int32)) C dX6_readLine_80 (by decide) ?_
        refine j_iand C dX6_readLine_81 ?_
        refine j_if_ne C 89 dX6_readLine_82 (by decide) (fun c8 => ?_) (fun c8 => ?_)
        · replace h := h.1 c8
          refine j_iconst (v := (0 : Int32)) C dX6_readLine_89 (by decide) ?_
          exact j_sub (lv' := [(0, .ref (eA E 64)), (1, .int x1)]) [0, 1] rfl h
        · replace h := h.2 c8
          refine j_iconst (v := (1 : Int32)) C dX6_readLine_85 (by decide) ?_
          refine j_goto C 90 dX6_readLine_86 (by decide) ?_
          exact j_sub (lv' := [(0, .ref (eA E 64)), (1, .int x1)]) [0, 1] rfl h) (by
    intro x1 s0 σ h
    refine j_iconst (v := (4 : Int32)) C dX6_readLine_90 (by decide) ?_
    refine j_callVV (As := [.int s0, .int (4 : Int32)]) (rest := []) C 64 (c_X6_needs h) (cwV 2 C.2.2.2.2.2.1 gX6_readLine_X6_needs rfl rfl rfl hdX6_needs ⟨Nat.le_of_ble_eq_true rfl, Nat.le_of_ble_eq_true rfl⟩) rfl rfl rfl rfl (Nat.le_of_ble_eq_true rfl) dX6_readLine_91 (fun σ9 h => ?_)
    refine j_aload_n C 0 dX6_readLine_94 rfl 0 rfl ?_
    refine j_dup C dX6_readLine_95 rfl ?_
    refine j_getI C 64 4 rfl rfl rfl in_X6_readLine_X6 (by decide) (by decide +kernel) dX6_readLine_96 ?_
    refine j_iconst (v := (1 : Int32)) C dX6_readLine_99 (by decide) ?_
    refine j_iload_n C 1 dX6_readLine_100 rfl 1 rfl ?_
    refine j_ishl C dX6_readLine_101 ?_
    refine j_ior C dX6_readLine_102 ?_
    refine j_put C 64 4 rfl rfl rfl in_X6_readLine_X6 tyX6 tyX6_ok nmX6 (by decide) (by decide +kernel) rfl rfl rfl rfl dX6_readLine_103 ?_
    refine j_mem (fun σ10 eσ10 => ?_)
    replace h := h σ10 eσ10
    exact j_sub (lv' := [(0, .ref (eA E 64)), (1, .int x1)]) [0, 1] rfl h) (by
    intro x1 σ h
    refine j_aload_n C 0 dX6_readLine_106 rfl 0 rfl ?_
    refine j_callVV (As := []) (rest := []) C 64 (c_X6_takes h) (cwV 0 C.2.2.2.2.2.1 gX6_readLine_X6_takes rfl rfl rfl hdX6_takes ⟨Nat.le_of_ble_eq_true rfl, Nat.le_of_ble_eq_true rfl⟩) rfl rfl rfl rfl (Nat.le_of_ble_eq_true rfl) dX6_readLine_107 (fun σ11 h => ?_)
    refine j_aload_n C 0 dX6_readLine_110 rfl 0 rfl ?_
    refine j_getI C 64 15 rfl rfl rfl in_X6_readLine_X6 (by decide) (by decide +kernel) dX6_readLine_111 ?_
    refine j_if_le C 118 dX6_readLine_114 (by decide) (fun c12 => ?_) (fun c12 => ?_)
    · replace h := h.1 c12
      refine j_aload_n C 0 dX6_readLine_118 rfl 0 rfl ?_
      refine j_iload_n C 1 dX6_readLine_119 rfl 1 rfl ?_
      refine j_callVV (As := [.int x1]) (rest := []) C 64 (c_X6_readLineOf h) (cwV 1 C.2.2.2.2.2.1 gX6_readLine_X6_readLineOf rfl rfl rfl hdX6_readLineOf ⟨Nat.le_of_ble_eq_true rfl, Nat.le_of_ble_eq_true rfl⟩) rfl rfl rfl rfl (Nat.le_of_ble_eq_true rfl) dX6_readLine_120 (fun σ13 h => ?_)
      refine j_aload_n C 0 dX6_readLine_123 rfl 0 rfl ?_
      refine j_getI C 64 15 rfl rfl rfl in_X6_readLine_X6 (by decide) (by decide +kernel) dX6_readLine_124 ?_
      refine j_if_ne C 148 dX6_readLine_127 (by decide) (fun c14 => ?_) (fun c14 => ?_)
      · replace h := h.1 c14
        exact j_sub (lv' := [(0, .ref (eA E 64))]) [0] rfl h
      · replace h := h.2 c14
        refine j_aload_n C 0 dX6_readLine_130 rfl 0 rfl ?_
        refine j_aload_n C 0 dX6_readLine_131 rfl 0 rfl ?_
        refine j_getI C 64 13 rfl rfl rfl in_X6_readLine_X6 (by decide) (by decide +kernel) dX6_readLine_132 ?_
        refine j_iconst (v := (3 : Int32)) C dX6_readLine_135 (by decide) ?_
        refine j_icmp_ne C 143 dX6_readLine_136 (by decide) (fun c15 => ?_) (fun c15 => ?_)
        · replace h := h.1 c15
          refine j_iconst (v := (0 : Int32)) C dX6_readLine_143 (by decide) ?_
          exact j_sub (lv' := [(0, .ref (eA E 64))]) [0] rfl h
        · replace h := h.2 c15
          refine j_iconst (v := (1 : Int32)) C dX6_readLine_139 (by decide) ?_
          refine j_goto C 144 dX6_readLine_140 (by decide) ?_
          exact j_sub (lv' := [(0, .ref (eA E 64))]) [0] rfl h
    · replace h := h.2 c12
      exact j_vret C dX6_readLine_117 h) (by
    intro s0 σ h
    refine j_iconst (v := (2 : Int32)) C dX6_readLine_144 (by decide) ?_
    refine j_callVV (As := [.int s0, .int (2 : Int32)]) (rest := []) C 64 (c_X6_needs h) (cwV 2 C.2.2.2.2.2.1 gX6_readLine_X6_needs rfl rfl rfl hdX6_needs ⟨Nat.le_of_ble_eq_true rfl, Nat.le_of_ble_eq_true rfl⟩) rfl rfl rfl rfl (Nat.le_of_ble_eq_true rfl) dX6_readLine_145 (fun σ16 h => ?_)
    exact j_sub (lv' := [(0, .ref (eA E 64))]) [0] rfl h) (by
    intro σ h
    refine j_aload_n C 0 dX6_readLine_148 rfl 0 rfl ?_
    refine j_callVV (As := []) (rest := []) C 64 (c_X6_takes h) (cwV 0 C.2.2.2.2.2.1 gX6_readLine_X6_takes rfl rfl rfl hdX6_takes ⟨Nat.le_of_ble_eq_true rfl, Nat.le_of_ble_eq_true rfl⟩) rfl rfl rfl rfl (Nat.le_of_ble_eq_true rfl) dX6_readLine_149 (fun σ17 h => ?_)
    exact j_vret C dX6_readLine_152 h)
  refine j_aload_n C 0 dX6_readLine_0 rfl 0 rfl ?_
  refine j_getI C 64 13 rfl rfl rfl in_X6_readLine_X6 (by decide) (by decide +kernel) dX6_readLine_1 ?_
  refine j_iconst (v := (1 : Int32)) C dX6_readLine_4 (by decide) ?_
  refine j_icmp_ne C 15 dX6_readLine_5 (by decide) (fun c18 => ?_) (fun c18 => ?_)
  · replace h := h.1 c18
    refine j_bipush (v := (-4 : Int32)) C dX6_readLine_15 (by decide) ?_
    exact j_sub (lv' := [(0, .ref (eA E 64))]) [0] rfl h
  · replace h := h.2 c18
    refine j_aload_n C 0 dX6_readLine_8 rfl 0 rfl ?_
    refine j_callVI (As := []) (rest := []) C 64 (c_X6_lineNow h) (cwV 0 C.2.2.2.2.2.1 gX6_readLine_X6_lineNow rfl rfl rfl hdX6_lineNow ⟨Nat.le_of_ble_eq_true rfl, Nat.le_of_ble_eq_true rfl⟩) rfl rfl rfl rfl (Nat.le_of_ble_eq_true rfl) dX6_readLine_9 (fun r20 σ19 h => ?_)
    refine j_goto C 17 dX6_readLine_12 (by decide) ?_
    exact j_sub (lv' := [(0, .ref (eA E 64))]) [0] rfl h
def wp_X6_text (σ : Mem) (Q : Int32 → Mem → Prop) : Prop :=
  ∀ (P20 : Int32 → Mem → Prop) (P44 : Int32 → Mem → Prop) (P71 : Int32 → Int32 → Mem → Prop) (P76 : Int32 → Mem → Prop),
  (∀ (x1 : Int32) (σ : Mem), ((¬ (σ.1 64 15) = 0 → P44 x1 σ) ∧ ((σ.1 64 15) = 0 → ((σ.1 64 13) = 0 → P44 x1 σ) ∧ (¬ (σ.1 64 13) = 0 → wp_X6_readLine σ (fun σ3 => ∀ v4 : Int32, v4 = x1 + (1 : Int32) → P20 v4 σ3)))) → P20 x1 σ) →
  (∀ (x1 : Int32) (σ : Mem), ((¬ (σ.1 64 15) = 0 → P76 x1 σ) ∧ ((σ.1 64 15) = 0 → ((σ.1 68 ((24 : Int32)).toNatClampNeg) ≤ (σ.1 64 8) → P71 x1 (0 : Int32) σ) ∧ (¬ (σ.1 68 ((24 : Int32)).toNatClampNeg) ≤ (σ.1 64 8) → P71 x1 (1 : Int32) σ))) → P44 x1 σ) →
  (∀ (x1 : Int32) (s0 : Int32) (σ : Mem), (wp_X6_needs s0 (6 : Int32) σ (fun σ7 => P76 x1 σ7)) → P71 x1 s0 σ) →
  (∀ (x1 : Int32) (σ : Mem), (∀ σ8 : Mem, σ8 = st1 σ 64 10 (0 : Int32) → ((σ8.1 64 15) ≤ 0 → wp_X6_keepDraft σ8 (fun σ10 => Q x1 σ10)) ∧ (¬ (σ8.1 64 15) ≤ 0 → Q ((-10 : Int32) - (σ8.1 64 16)) σ8)) → P76 x1 σ) →
  ∀ σ11 : Mem, σ11 = st1 σ 64 15 (0 : Int32) → ∀ σ12 : Mem, σ12 = st1 σ11 64 11 (0 : Int32) → wp_X6_firstDraft σ12 (fun σ13 => wp_X6_takes σ13 (fun σ14 => P20 (0 : Int32) σ14))
theorem in_X6_text_X6 : ∀ w ∈ wsX60, w ∈ wsX6_text := fun _ h => List.mem_cons_of_mem _ (List.mem_append_right _ h)
def rmX6_text : Room := { frames := 5, cells := 0, slots := 0, locals := 112 }
theorem hdX6_text : yX6_text.cls = RX6 ∧ yX6_text.cls ≠ "java/lang/invoke/MethodHandle" ∧ yX6_text.cls ≠ "java/lang/invoke/VarHandle" ∧ (parseMethodDescriptor yX6_text.desc).map (fun d => d.parameters.length) = some 0 := by decide +kernel
set_option maxHeartbeats 4000000 in
set_option maxRecDepth 100000 in
theorem c_X6_text {l : Launch} {E : EE}   {σ : Mem} {Q : Int32 → Mem → Prop} (h : wp_X6_text  σ Q) : CtI l yX6_text wsX6_text rmX6_text E [.ref (eA E 64)] σ Q := by
  refine metI (cc := cX6_text) (nL := 2) (ret := (some .int)) (lv := [(0, .ref (eA E 64))]) (by decide) rfl (Nat.le_of_ble_eq_true rfl) rfl ?_
  intro p e s m args below meth c C
  unfold wp_X6_text at h
  replace h := h (fun (x1 : Int32) (σ : Mem) => J E p l e rmX6_text s m args below meth c (QI E below args s Q) 2 20 [(0, .ref (eA E 64)), (1, .int x1)] [] σ) (fun (x1 : Int32) (σ : Mem) => J E p l e rmX6_text s m args below meth c (QI E below args s Q) 2 44 [(0, .ref (eA E 64)), (1, .int x1)] [] σ) (fun (x1 : Int32) (s0 : Int32) (σ : Mem) => J E p l e rmX6_text s m args below meth c (QI E below args s Q) 2 71 [(0, .ref (eA E 64)), (1, .int x1)] [.int s0, .ref (eA E 64)] σ) (fun (x1 : Int32) (σ : Mem) => J E p l e rmX6_text s m args below meth c (QI E below args s Q) 2 76 [(0, .ref (eA E 64)), (1, .int x1)] [] σ) (by
    intro x1 σ h
    refine j_aload_n C 0 dX6_text_20 rfl 0 rfl ?_
    refine j_getI C 64 15 rfl rfl rfl in_X6_text_X6 (by decide) (by decide +kernel) dX6_text_21 ?_
    refine j_if_ne C 44 dX6_text_24 (by decide) (fun c1 => ?_) (fun c1 => ?_)
    · replace h := h.1 c1
      exact j_sub (lv' := [(0, .ref (eA E 64)), (1, .int x1)]) [0, 1] rfl h
    · replace h := h.2 c1
      refine j_aload_n C 0 dX6_text_27 rfl 0 rfl ?_
      refine j_getI C 64 13 rfl rfl rfl in_X6_text_X6 (by decide) (by decide +kernel) dX6_text_28 ?_
      refine j_if_eq C 44 dX6_text_31 (by decide) (fun c2 => ?_) (fun c2 => ?_)
      · replace h := h.1 c2
        exact j_sub (lv' := [(0, .ref (eA E 64)), (1, .int x1)]) [0, 1] rfl h
      · replace h := h.2 c2
        refine j_aload_n C 0 dX6_text_34 rfl 0 rfl ?_
        refine j_callVV (As := []) (rest := []) C 64 (c_X6_readLine h) (cwV 0 C.2.2.2.2.2.1 gX6_text_X6_readLine rfl rfl rfl hdX6_readLine ⟨Nat.le_of_ble_eq_true rfl, Nat.le_of_ble_eq_true rfl⟩) rfl rfl rfl rfl (Nat.le_of_ble_eq_true rfl) dX6_text_35 (fun σ3 h => ?_)
        obtain ⟨v4, ev4⟩ : ∃ y : Int32, y = x1 + (1 : Int32) := ⟨_, rfl⟩
        replace h := h v4 ev4
        refine j_iinc (v := v4) (lv' := [(1, .int v4), (0, .ref (eA E 64))]) C 1 dX6_text_38 1 rfl (by rw [ev4]; rfl) (by decide) rfl ?_
        refine j_goto C 20 dX6_text_41 (by decide) ?_
        exact j_sub (lv' := [(0, .ref (eA E 64)), (1, .int v4)]) [1, 0] rfl h) (by
    intro x1 σ h
    refine j_aload_n C 0 dX6_text_44 rfl 0 rfl ?_
    refine j_getI C 64 15 rfl rfl rfl in_X6_text_X6 (by decide) (by decide +kernel) dX6_text_45 ?_
    refine j_if_ne C 76 dX6_text_48 (by decide) (fun c5 => ?_) (fun c5 => ?_)
    · replace h := h.1 c5
      exact j_sub (lv' := [(0, .ref (eA E 64)), (1, .int x1)]) [0, 1] rfl h
    · replace h := h.2 c5
      refine j_aload_n C 0 dX6_text_51 rfl 0 rfl ?_
      refine j_aload_n C 0 dX6_text_52 rfl 0 rfl ?_
      refine j_getI C 64 8 rfl rfl rfl in_X6_text_X6 (by decide) (by decide +kernel) dX6_text_53 ?_
      refine j_aload_n C 0 dX6_text_56 rfl 0 rfl ?_
      refine j_getR C 68 64 3 rfl rfl rfl in_X6_text_X6 (by decide) (by decide +kernel) dX6_text_57 ?_
      refine j_bipush (v := (24 : Int32)) C dX6_text_60 (by decide) ?_
      refine j_iald C 68 rfl dX6_text_62 (in_lit rfl) ?_
      refine j_icmp_ge C 70 dX6_text_63 (by decide) (fun c6 => ?_) (fun c6 => ?_)
      · replace h := h.1 c6
        refine j_iconst (v := (0 : Int32)) C dX6_text_70 (by decide) ?_
        exact j_sub (lv' := [(0, .ref (eA E 64)), (1, .int x1)]) [0, 1] rfl h
      · replace h := h.2 c6
        refine j_iconst (v := (1 : Int32)) C dX6_text_66 (by decide) ?_
        refine j_goto C 71 dX6_text_67 (by decide) ?_
        exact j_sub (lv' := [(0, .ref (eA E 64)), (1, .int x1)]) [0, 1] rfl h) (by
    intro x1 s0 σ h
    refine j_bipush (v := (6 : Int32)) C dX6_text_71 (by decide) ?_
    refine j_callVV (As := [.int s0, .int (6 : Int32)]) (rest := []) C 64 (c_X6_needs h) (cwV 2 C.2.2.2.2.2.1 gX6_text_X6_needs rfl rfl rfl hdX6_needs ⟨Nat.le_of_ble_eq_true rfl, Nat.le_of_ble_eq_true rfl⟩) rfl rfl rfl rfl (Nat.le_of_ble_eq_true rfl) dX6_text_73 (fun σ7 h => ?_)
    exact j_sub (lv' := [(0, .ref (eA E 64)), (1, .int x1)]) [0, 1] rfl h) (by
    intro x1 σ h
    refine j_aload_n C 0 dX6_text_76 rfl 0 rfl ?_
    refine j_iconst (v := (0 : Int32)) C dX6_text_77 (by decide) ?_
    refine j_put C 64 10 rfl rfl rfl in_X6_text_X6 tyX6 tyX6_ok nmX6 (by decide) (by decide +kernel) rfl rfl rfl rfl dX6_text_78 ?_
    refine j_mem (fun σ8 eσ8 => ?_)
    replace h := h σ8 eσ8
    refine j_aload_n C 0 dX6_text_81 rfl 0 rfl ?_
    refine j_getI C 64 15 rfl rfl rfl in_X6_text_X6 (by decide) (by decide +kernel) dX6_text_82 ?_
    refine j_if_le C 96 dX6_text_85 (by decide) (fun c9 => ?_) (fun c9 => ?_)
    · replace h := h.1 c9
      refine j_aload_n C 0 dX6_text_96 rfl 0 rfl ?_
      refine j_callVV (As := []) (rest := []) C 64 (c_X6_keepDraft h) (cwV 0 C.2.2.2.2.2.1 gX6_text_X6_keepDraft rfl rfl rfl hdX6_keepDraft ⟨Nat.le_of_ble_eq_true rfl, Nat.le_of_ble_eq_true rfl⟩) rfl rfl rfl rfl (Nat.le_of_ble_eq_true rfl) dX6_text_97 (fun σ10 h => ?_)
      refine j_iload_n C 1 dX6_text_100 rfl 1 rfl ?_
      exact j_iret C dX6_text_101 h
    · replace h := h.2 c9
      refine j_bipush (v := (-10 : Int32)) C dX6_text_88 (by decide) ?_
      refine j_aload_n C 0 dX6_text_90 rfl 0 rfl ?_
      refine j_getI C 64 16 rfl rfl rfl in_X6_text_X6 (by decide) (by decide +kernel) dX6_text_91 ?_
      refine j_isub C dX6_text_94 ?_
      exact j_iret C dX6_text_95 h)
  refine j_iconst (v := (0 : Int32)) C dX6_text_0 (by decide) ?_
  refine j_istore_n (lv' := [(1, .int (0 : Int32)), (0, .ref (eA E 64))]) C 1 dX6_text_1 rfl (by decide) rfl ?_
  refine j_aload_n C 0 dX6_text_2 rfl 1 rfl ?_
  refine j_iconst (v := (0 : Int32)) C dX6_text_3 (by decide) ?_
  refine j_put C 64 15 rfl rfl rfl in_X6_text_X6 tyX6 tyX6_ok nmX6 (by decide) (by decide +kernel) rfl rfl rfl rfl dX6_text_4 ?_
  refine j_mem (fun σ11 eσ11 => ?_)
  replace h := h σ11 eσ11
  refine j_aload_n C 0 dX6_text_7 rfl 1 rfl ?_
  refine j_iconst (v := (0 : Int32)) C dX6_text_8 (by decide) ?_
  refine j_put C 64 11 rfl rfl rfl in_X6_text_X6 tyX6 tyX6_ok nmX6 (by decide) (by decide +kernel) rfl rfl rfl rfl dX6_text_9 ?_
  refine j_mem (fun σ12 eσ12 => ?_)
  replace h := h σ12 eσ12
  refine j_aload_n C 0 dX6_text_12 rfl 1 rfl ?_
  refine j_callVV (As := []) (rest := []) C 64 (c_X6_firstDraft h) (cwV 0 C.2.2.2.2.2.1 gX6_text_X6_firstDraft rfl rfl rfl hdX6_firstDraft ⟨Nat.le_of_ble_eq_true rfl, Nat.le_of_ble_eq_true rfl⟩) rfl rfl rfl rfl (Nat.le_of_ble_eq_true rfl) dX6_text_13 (fun σ13 h => ?_)
  refine j_aload_n C 0 dX6_text_16 rfl 1 rfl ?_
  refine j_callVV (As := []) (rest := []) C 64 (c_X6_takes h) (cwV 0 C.2.2.2.2.2.1 gX6_text_X6_takes rfl rfl rfl hdX6_takes ⟨Nat.le_of_ble_eq_true rfl, Nat.le_of_ble_eq_true rfl⟩) rfl rfl rfl rfl (Nat.le_of_ble_eq_true rfl) dX6_text_17 (fun σ14 h => ?_)
  exact j_sub (lv' := [(0, .ref (eA E 64)), (1, .int (0 : Int32))]) [1, 0] rfl h
def wp_X6_fault (σ : Mem) (Q : Int32 → Mem → Prop) : Prop :=
  Q (σ.1 64 15) σ
theorem in_X6_fault_X6 : ∀ w ∈ wsX60, w ∈ wsX6_fault := fun _ h => List.mem_cons_of_mem _ (List.mem_append_right _ h)
def rmX6_fault : Room := { frames := 0, cells := 0, slots := 0, locals := 0 }
theorem hdX6_fault : yX6_fault.cls = RX6 ∧ yX6_fault.cls ≠ "java/lang/invoke/MethodHandle" ∧ yX6_fault.cls ≠ "java/lang/invoke/VarHandle" ∧ (parseMethodDescriptor yX6_fault.desc).map (fun d => d.parameters.length) = some 0 := by decide +kernel
set_option maxHeartbeats 4000000 in
set_option maxRecDepth 100000 in
theorem c_X6_fault {l : Launch} {E : EE}   {σ : Mem} {Q : Int32 → Mem → Prop} (h : wp_X6_fault  σ Q) : CtI l yX6_fault wsX6_fault rmX6_fault E [.ref (eA E 64)] σ Q := by
  refine metI (cc := cX6_fault) (nL := 1) (ret := (some .int)) (lv := [(0, .ref (eA E 64))]) (by decide) rfl (Nat.le_of_ble_eq_true rfl) rfl ?_
  intro p e s m args below meth c C
  unfold wp_X6_fault at h
  refine j_aload_n C 0 dX6_fault_0 rfl 0 rfl ?_
  refine j_getI C 64 15 rfl rfl rfl in_X6_fault_X6 (by decide) (by decide +kernel) dX6_fault_1 ?_
  exact j_iret C dX6_fault_4 h
def wp_X6_isHeir (a1 : Int32) (σ : Mem) (Q : Int32 → Mem → Prop) : Prop :=
  wp_X6_in ((a1).toInt64) (0 : Int64) ((((σ.1 65 ((24 : Int32)).toNatClampNeg) - (1 : Int32))).toInt64) σ (fun r2 σ1 => (r2 = 0 ∨ r2 = 1) ∧ Q r2 σ1)
theorem in_X6_isHeir_X6 : ∀ w ∈ wsX60, w ∈ wsX6_isHeir := fun _ h => List.mem_cons_of_mem _ (List.mem_append_right _ h)
def rmX6_isHeir : Room := { frames := 1, cells := 0, slots := 0, locals := 25 }
theorem hdX6_isHeir : yX6_isHeir.cls = RX6 ∧ yX6_isHeir.cls ≠ "java/lang/invoke/MethodHandle" ∧ yX6_isHeir.cls ≠ "java/lang/invoke/VarHandle" ∧ (parseMethodDescriptor yX6_isHeir.desc).map (fun d => d.parameters.length) = some 1 := by decide +kernel
set_option maxHeartbeats 4000000 in
set_option maxRecDepth 100000 in
theorem c_X6_isHeir {l : Launch} {E : EE} {a1 : Int32}  {σ : Mem} {Q : Int32 → Mem → Prop} (h : wp_X6_isHeir a1 σ Q) : CtI l yX6_isHeir wsX6_isHeir rmX6_isHeir E [.ref (eA E 64), .int a1] σ Q := by
  refine metI (cc := cX6_isHeir) (nL := 2) (ret := (some .boolean)) (lv := [(0, .ref (eA E 64)), (1, .int a1)]) (by decide) rfl (Nat.le_of_ble_eq_true rfl) rfl ?_
  intro p e s m args below meth c C
  unfold wp_X6_isHeir at h
  refine j_iload_n C 1 dX6_isHeir_0 rfl 1 rfl ?_
  refine j_i2l C dX6_isHeir_1 rfl ?_
  refine j_lconst (v := (0 : Int64)) C dX6_isHeir_2 (by decide) ?_
  refine j_aload_n C 0 dX6_isHeir_3 rfl 0 rfl ?_
  refine j_getR C 65 64 0 rfl rfl rfl in_X6_isHeir_X6 (by decide) (by decide +kernel) dX6_isHeir_4 ?_
  refine j_bipush (v := (24 : Int32)) C dX6_isHeir_7 (by decide) ?_
  refine j_iald C 65 rfl dX6_isHeir_9 (in_lit rfl) ?_
  refine j_iconst (v := (1 : Int32)) C dX6_isHeir_10 (by decide) ?_
  refine j_isub C dX6_isHeir_11 ?_
  refine j_i2l C dX6_isHeir_12 rfl ?_
  refine j_callSI (As := [.long (a1).toInt64, .long (0 : Int64), .long (((σ.1 65 ((24 : Int32)).toNatClampNeg) - (1 : Int32))).toInt64]) (rest := []) C (c_X6_in h) (va_cwS 3 C.2.2.2.2.2.1 gX6_isHeir_X6_in rfl rfl rfl hdX6_in.2 ⟨Nat.le_of_ble_eq_true rfl, Nat.le_of_ble_eq_true rfl⟩) rfl rfl (Nat.le_of_ble_eq_true rfl) dX6_isHeir_13 (fun r2 σ1 h => ?_)
  exact j_zret C dX6_isHeir_16 h.1 h.2
def wp_X6_areTwo (σ : Mem) (Q : Int32 → Mem → Prop) : Prop :=
  ((σ.1 65 ((24 : Int32)).toNatClampNeg) ≤ (1 : Int32) → Q (0 : Int32) σ) ∧ (¬ (σ.1 65 ((24 : Int32)).toNatClampNeg) ≤ (1 : Int32) → Q (1 : Int32) σ)
theorem in_X6_areTwo_X6 : ∀ w ∈ wsX60, w ∈ wsX6_areTwo := fun _ h => List.mem_cons_of_mem _ (List.mem_append_right _ h)
def rmX6_areTwo : Room := { frames := 0, cells := 0, slots := 0, locals := 0 }
theorem hdX6_areTwo : yX6_areTwo.cls = RX6 ∧ yX6_areTwo.cls ≠ "java/lang/invoke/MethodHandle" ∧ yX6_areTwo.cls ≠ "java/lang/invoke/VarHandle" ∧ (parseMethodDescriptor yX6_areTwo.desc).map (fun d => d.parameters.length) = some 0 := by decide +kernel
set_option maxHeartbeats 4000000 in
set_option maxRecDepth 100000 in
theorem c_X6_areTwo {l : Launch} {E : EE}   {σ : Mem} {Q : Int32 → Mem → Prop} (h : wp_X6_areTwo  σ Q) : CtI l yX6_areTwo wsX6_areTwo rmX6_areTwo E [.ref (eA E 64)] σ Q := by
  refine metI (cc := cX6_areTwo) (nL := 1) (ret := (some .boolean)) (lv := [(0, .ref (eA E 64))]) (by decide) rfl (Nat.le_of_ble_eq_true rfl) rfl ?_
  intro p e s m args below meth c C
  unfold wp_X6_areTwo at h
  refine j_aload_n C 0 dX6_areTwo_0 rfl 0 rfl ?_
  refine j_getR C 65 64 0 rfl rfl rfl in_X6_areTwo_X6 (by decide) (by decide +kernel) dX6_areTwo_1 ?_
  refine j_bipush (v := (24 : Int32)) C dX6_areTwo_4 (by decide) ?_
  refine j_iald C 65 rfl dX6_areTwo_6 (in_lit rfl) ?_
  refine j_iconst (v := (1 : Int32)) C dX6_areTwo_7 (by decide) ?_
  refine j_icmp_le C 15 dX6_areTwo_8 (by decide) (fun c1 => ?_) (fun c1 => ?_)
  · replace h := h.1 c1
    refine j_iconst (v := (0 : Int32)) C dX6_areTwo_15 (by decide) ?_
    exact j_zret C dX6_areTwo_16 (Or.inl rfl) h
  · replace h := h.2 c1
    refine j_iconst (v := (1 : Int32)) C dX6_areTwo_11 (by decide) ?_
    refine j_goto C 16 dX6_areTwo_12 (by decide) ?_
    exact j_zret C dX6_areTwo_16 (Or.inr rfl) h
def wp_X6_isPart (a0 : Int32) (σ : Mem) (Q : Int32 → Mem → Prop) : Prop :=
  wp_X6_in ((a0).toInt64) (0 : Int64) (1 : Int64) σ (fun r2 σ1 => (r2 = 0 ∨ r2 = 1) ∧ Q r2 σ1)
def rmX6_isPart : Room := { frames := 1, cells := 0, slots := 0, locals := 25 }
theorem hdX6_isPart : yX6_isPart.cls = RX6 ∧ yX6_isPart.cls ≠ "java/lang/invoke/MethodHandle" ∧ yX6_isPart.cls ≠ "java/lang/invoke/VarHandle" ∧ (parseMethodDescriptor yX6_isPart.desc).map (fun d => d.parameters.length) = some 1 := by decide +kernel
set_option maxHeartbeats 4000000 in
set_option maxRecDepth 100000 in
theorem c_X6_isPart {l : Launch} {E : EE} {a0 : Int32}  {σ : Mem} {Q : Int32 → Mem → Prop} (h : wp_X6_isPart a0 σ Q) : CtI l yX6_isPart wsX6_isPart rmX6_isPart E [.int a0] σ Q := by
  refine metI (cc := cX6_isPart) (nL := 1) (ret := (some .boolean)) (lv := [(0, .int a0)]) (by decide) rfl (Nat.le_of_ble_eq_true rfl) rfl ?_
  intro p e s m args below meth c C
  unfold wp_X6_isPart at h
  refine j_iload_n C 0 dX6_isPart_0 rfl 0 rfl ?_
  refine j_i2l C dX6_isPart_1 rfl ?_
  refine j_lconst (v := (0 : Int64)) C dX6_isPart_2 (by decide) ?_
  refine j_lconst (v := (1 : Int64)) C dX6_isPart_3 (by decide) ?_
  refine j_callSI (As := [.long (a0).toInt64, .long (0 : Int64), .long (1 : Int64)]) (rest := []) C (c_X6_in h) (va_cwS 3 C.2.2.2.2.2.1 gX6_isPart_X6_in rfl rfl rfl hdX6_in.2 ⟨Nat.le_of_ble_eq_true rfl, Nat.le_of_ble_eq_true rfl⟩) rfl rfl (Nat.le_of_ble_eq_true rfl) dX6_isPart_4 (fun r2 σ1 h => ?_)
  exact j_zret C dX6_isPart_7 h.1 h.2
def wp_X6_starts (σ : Mem) (Q : Mem → Prop) : Prop :=
  ∀ (P2 : Int32 → Mem → Prop),
  (∀ (x1 : Int32) (σ : Mem), (((49 : Int32) ≤ x1 → Q σ) ∧ (¬ (49 : Int32) ≤ x1 → vp_in x1 147 ∧ (vp_in x1 49 ∧ (∀ σ2 : Mem, σ2 = st1 σ 66 (x1).toNatClampNeg (σ.1 65 (x1).toNatClampNeg) → ∀ v3 : Int32, v3 = x1 + (1 : Int32) → P2 v3 σ2)))) → P2 x1 σ) →
  P2 (0 : Int32) σ
theorem in_X6_starts_X6 : ∀ w ∈ wsX60, w ∈ wsX6_starts := fun _ h => List.mem_cons_of_mem _ (List.mem_append_right _ h)
def rmX6_starts : Room := { frames := 0, cells := 0, slots := 0, locals := 0 }
theorem hdX6_starts : yX6_starts.cls = RX6 ∧ yX6_starts.cls ≠ "java/lang/invoke/MethodHandle" ∧ yX6_starts.cls ≠ "java/lang/invoke/VarHandle" ∧ (parseMethodDescriptor yX6_starts.desc).map (fun d => d.parameters.length) = some 0 := by decide +kernel
set_option maxHeartbeats 4000000 in
set_option maxRecDepth 100000 in
theorem c_X6_starts {l : Launch} {E : EE}   {σ : Mem} {Q : Mem → Prop} (h : wp_X6_starts  σ Q) : CtV l yX6_starts wsX6_starts rmX6_starts E [.ref (eA E 64)] σ Q := by
  refine metV (cc := cX6_starts) (nL := 2) (ret := none) (lv := [(0, .ref (eA E 64))]) (by decide) rfl (Nat.le_of_ble_eq_true rfl) rfl ?_
  intro p e s m args below meth c C
  unfold wp_X6_starts at h
  replace h := h (fun (x1 : Int32) (σ : Mem) => J E p l e rmX6_starts s m args below meth c (QV E below args s Q) 2 2 [(0, .ref (eA E 64)), (1, .int x1)] [] σ) (by
    intro x1 σ h
    refine j_iload_n C 1 dX6_starts_2 rfl 1 rfl ?_
    refine j_bipush (v := (49 : Int32)) C dX6_starts_3 (by decide) ?_
    refine j_icmp_ge C 26 dX6_starts_5 (by decide) (fun c1 => ?_) (fun c1 => ?_)
    · replace h := h.1 c1
      exact j_vret C dX6_starts_26 h
    · replace h := h.2 c1
      refine j_aload_n C 0 dX6_starts_8 rfl 0 rfl ?_
      refine j_getR C 66 64 1 rfl rfl rfl in_X6_starts_X6 (by decide) (by decide +kernel) dX6_starts_9 ?_
      refine j_iload_n C 1 dX6_starts_12 rfl 1 rfl ?_
      refine j_aload_n C 0 dX6_starts_13 rfl 0 rfl ?_
      refine j_getR C 65 64 0 rfl rfl rfl in_X6_starts_X6 (by decide) (by decide +kernel) dX6_starts_14 ?_
      refine j_iload_n C 1 dX6_starts_17 rfl 1 rfl ?_
      refine j_iald C 65 rfl dX6_starts_18 h.1 ?_
      replace h := h.2
      refine j_iast C 66 rfl dX6_starts_19 h.1 ?_
      replace h := h.2
      refine j_mem (fun σ2 eσ2 => ?_)
      replace h := h σ2 eσ2
      obtain ⟨v3, ev3⟩ : ∃ y : Int32, y = x1 + (1 : Int32) := ⟨_, rfl⟩
      replace h := h v3 ev3
      refine j_iinc (v := v3) (lv' := [(1, .int v3), (0, .ref (eA E 64))]) C 1 dX6_starts_20 1 rfl (by rw [ev3]; rfl) (by decide) rfl ?_
      refine j_goto C 2 dX6_starts_23 (by decide) ?_
      exact j_sub (lv' := [(0, .ref (eA E 64)), (1, .int v3)]) [1, 0] rfl h)
  refine j_iconst (v := (0 : Int32)) C dX6_starts_0 (by decide) ?_
  refine j_istore_n (lv' := [(1, .int (0 : Int32)), (0, .ref (eA E 64))]) C 1 dX6_starts_1 rfl (by decide) rfl ?_
  exact j_sub (lv' := [(0, .ref (eA E 64)), (1, .int (0 : Int32))]) [1, 0] rfl h
def wp_X6_settles (σ : Mem) (Q : Mem → Prop) : Prop :=
  ∀ (P2 : Int32 → Mem → Prop),
  (∀ (x1 : Int32) (σ : Mem), (((49 : Int32) ≤ x1 → Q σ) ∧ (¬ (49 : Int32) ≤ x1 → vp_in x1 49 ∧ (vp_in x1 147 ∧ (∀ σ2 : Mem, σ2 = st1 σ 65 (x1).toNatClampNeg (σ.1 66 (x1).toNatClampNeg) → ∀ v3 : Int32, v3 = x1 + (1 : Int32) → P2 v3 σ2)))) → P2 x1 σ) →
  P2 (0 : Int32) σ
theorem in_X6_settles_X6 : ∀ w ∈ wsX60, w ∈ wsX6_settles := fun _ h => List.mem_cons_of_mem _ (List.mem_append_right _ h)
def rmX6_settles : Room := { frames := 0, cells := 0, slots := 0, locals := 0 }
theorem hdX6_settles : yX6_settles.cls = RX6 ∧ yX6_settles.cls ≠ "java/lang/invoke/MethodHandle" ∧ yX6_settles.cls ≠ "java/lang/invoke/VarHandle" ∧ (parseMethodDescriptor yX6_settles.desc).map (fun d => d.parameters.length) = some 0 := by decide +kernel
set_option maxHeartbeats 4000000 in
set_option maxRecDepth 100000 in
theorem c_X6_settles {l : Launch} {E : EE}   {σ : Mem} {Q : Mem → Prop} (h : wp_X6_settles  σ Q) : CtV l yX6_settles wsX6_settles rmX6_settles E [.ref (eA E 64)] σ Q := by
  refine metV (cc := cX6_settles) (nL := 2) (ret := none) (lv := [(0, .ref (eA E 64))]) (by decide) rfl (Nat.le_of_ble_eq_true rfl) rfl ?_
  intro p e s m args below meth c C
  unfold wp_X6_settles at h
  replace h := h (fun (x1 : Int32) (σ : Mem) => J E p l e rmX6_settles s m args below meth c (QV E below args s Q) 2 2 [(0, .ref (eA E 64)), (1, .int x1)] [] σ) (by
    intro x1 σ h
    refine j_iload_n C 1 dX6_settles_2 rfl 1 rfl ?_
    refine j_bipush (v := (49 : Int32)) C dX6_settles_3 (by decide) ?_
    refine j_icmp_ge C 26 dX6_settles_5 (by decide) (fun c1 => ?_) (fun c1 => ?_)
    · replace h := h.1 c1
      exact j_vret C dX6_settles_26 h
    · replace h := h.2 c1
      refine j_aload_n C 0 dX6_settles_8 rfl 0 rfl ?_
      refine j_getR C 65 64 0 rfl rfl rfl in_X6_settles_X6 (by decide) (by decide +kernel) dX6_settles_9 ?_
      refine j_iload_n C 1 dX6_settles_12 rfl 1 rfl ?_
      refine j_aload_n C 0 dX6_settles_13 rfl 0 rfl ?_
      refine j_getR C 66 64 1 rfl rfl rfl in_X6_settles_X6 (by decide) (by decide +kernel) dX6_settles_14 ?_
      refine j_iload_n C 1 dX6_settles_17 rfl 1 rfl ?_
      refine j_iald C 66 rfl dX6_settles_18 h.1 ?_
      replace h := h.2
      refine j_iast C 65 rfl dX6_settles_19 h.1 ?_
      replace h := h.2
      refine j_mem (fun σ2 eσ2 => ?_)
      replace h := h σ2 eσ2
      obtain ⟨v3, ev3⟩ : ∃ y : Int32, y = x1 + (1 : Int32) := ⟨_, rfl⟩
      replace h := h v3 ev3
      refine j_iinc (v := v3) (lv' := [(1, .int v3), (0, .ref (eA E 64))]) C 1 dX6_settles_20 1 rfl (by rw [ev3]; rfl) (by decide) rfl ?_
      refine j_goto C 2 dX6_settles_23 (by decide) ?_
      exact j_sub (lv' := [(0, .ref (eA E 64)), (1, .int v3)]) [1, 0] rfl h)
  refine j_iconst (v := (0 : Int32)) C dX6_settles_0 (by decide) ?_
  refine j_istore_n (lv' := [(1, .int (0 : Int32)), (0, .ref (eA E 64))]) C 1 dX6_settles_1 rfl (by decide) rfl ?_
  exact j_sub (lv' := [(0, .ref (eA E 64)), (1, .int (0 : Int32))]) [1, 0] rfl h
def wp_X6_of (a1 : Int32) (a2 : Int32) (σ : Mem) (Q : Int32 → Mem → Prop) : Prop :=
  vp_in (((4 : Int32) * a1) + a2) 49 ∧ (Q (σ.1 66 ((((4 : Int32) * a1) + a2)).toNatClampNeg) σ)
theorem in_X6_of_X6 : ∀ w ∈ wsX60, w ∈ wsX6_of := fun _ h => List.mem_cons_of_mem _ (List.mem_append_right _ h)
def rmX6_of : Room := { frames := 0, cells := 0, slots := 0, locals := 0 }
theorem hdX6_of : yX6_of.cls = RX6 ∧ yX6_of.cls ≠ "java/lang/invoke/MethodHandle" ∧ yX6_of.cls ≠ "java/lang/invoke/VarHandle" ∧ (parseMethodDescriptor yX6_of.desc).map (fun d => d.parameters.length) = some 2 := by decide +kernel
set_option maxHeartbeats 4000000 in
set_option maxRecDepth 100000 in
theorem c_X6_of {l : Launch} {E : EE} {a1 : Int32} {a2 : Int32}  {σ : Mem} {Q : Int32 → Mem → Prop} (h : wp_X6_of a1 a2 σ Q) : CtI l yX6_of wsX6_of rmX6_of E [.ref (eA E 64), .int a1, .int a2] σ Q := by
  refine metI (cc := cX6_of) (nL := 3) (ret := (some .int)) (lv := [(0, .ref (eA E 64)), (1, .int a1), (2, .int a2)]) (by decide) rfl (Nat.le_of_ble_eq_true rfl) rfl ?_
  intro p e s m args below meth c C
  unfold wp_X6_of at h
  refine j_aload_n C 0 dX6_of_0 rfl 0 rfl ?_
  refine j_getR C 66 64 1 rfl rfl rfl in_X6_of_X6 (by decide) (by decide +kernel) dX6_of_1 ?_
  refine j_iconst (v := (4 : Int32)) C dX6_of_4 (by decide) ?_
  refine j_iload_n C 1 dX6_of_5 rfl 1 rfl ?_
  refine j_imul C dX6_of_6 ?_
  refine j_iload_n C 2 dX6_of_7 rfl 2 rfl ?_
  refine j_iadd C dX6_of_8 ?_
  refine j_iald C 66 rfl dX6_of_9 h.1 ?_
  replace h := h.2
  exact j_iret C dX6_of_10 h
def wp_X6_becomesOf (a1 : Int32) (a2 : Int32) (a3 : Int32) (σ : Mem) (Q : Mem → Prop) : Prop :=
  vp_in (((4 : Int32) * a1) + a2) 49 ∧ (∀ σ1 : Mem, σ1 = st1 σ 66 ((((4 : Int32) * a1) + a2)).toNatClampNeg a3 → Q σ1)
theorem in_X6_becomesOf_X6 : ∀ w ∈ wsX60, w ∈ wsX6_becomesOf := fun _ h => List.mem_cons_of_mem _ (List.mem_append_right _ h)
def rmX6_becomesOf : Room := { frames := 0, cells := 0, slots := 0, locals := 0 }
theorem hdX6_becomesOf : yX6_becomesOf.cls = RX6 ∧ yX6_becomesOf.cls ≠ "java/lang/invoke/MethodHandle" ∧ yX6_becomesOf.cls ≠ "java/lang/invoke/VarHandle" ∧ (parseMethodDescriptor yX6_becomesOf.desc).map (fun d => d.parameters.length) = some 3 := by decide +kernel
set_option maxHeartbeats 4000000 in
set_option maxRecDepth 100000 in
theorem c_X6_becomesOf {l : Launch} {E : EE} {a1 : Int32} {a2 : Int32} {a3 : Int32}  {σ : Mem} {Q : Mem → Prop} (h : wp_X6_becomesOf a1 a2 a3 σ Q) : CtV l yX6_becomesOf wsX6_becomesOf rmX6_becomesOf E [.ref (eA E 64), .int a1, .int a2, .int a3] σ Q := by
  refine metV (cc := cX6_becomesOf) (nL := 4) (ret := none) (lv := [(0, .ref (eA E 64)), (1, .int a1), (2, .int a2), (3, .int a3)]) (by decide) rfl (Nat.le_of_ble_eq_true rfl) rfl ?_
  intro p e s m args below meth c C
  unfold wp_X6_becomesOf at h
  refine j_aload_n C 0 dX6_becomesOf_0 rfl 0 rfl ?_
  refine j_getR C 66 64 1 rfl rfl rfl in_X6_becomesOf_X6 (by decide) (by decide +kernel) dX6_becomesOf_1 ?_
  refine j_iconst (v := (4 : Int32)) C dX6_becomesOf_4 (by decide) ?_
  refine j_iload_n C 1 dX6_becomesOf_5 rfl 1 rfl ?_
  refine j_imul C dX6_becomesOf_6 ?_
  refine j_iload_n C 2 dX6_becomesOf_7 rfl 2 rfl ?_
  refine j_iadd C dX6_becomesOf_8 ?_
  refine j_iload_n C 3 dX6_becomesOf_9 rfl 3 rfl ?_
  refine j_iast C 66 rfl dX6_becomesOf_10 h.1 ?_
  replace h := h.2
  refine j_mem (fun σ1 eσ1 => ?_)
  replace h := h σ1 eσ1
  exact j_vret C dX6_becomesOf_11 h
def wp_X6_height (a1 : Int32) (σ : Mem) (Q : Int32 → Mem → Prop) : Prop :=
  wp_X6_of a1 (2 : Int32) σ (fun r2 σ1 => ∀ v3 : Int32, v3 = (r2 + ((r2 + (1 : Int32)) / (2 : Int32))) → wp_X6_of a1 (0 : Int32) σ1 (fun r5 σ4 => (r5 = (1 : Int32) → Q v3 σ4) ∧ (r5 = (2 : Int32) → Q (v3 / (2 : Int32)) σ4) ∧ (r5 = (3 : Int32) → ((v3 / (2 : Int32)) ≤ 0 → Q (0 : Int32) σ4) ∧ (¬ (v3 / (2 : Int32)) ≤ 0 → Q ((v3 / (2 : Int32)) - (1 : Int32)) σ4)) ∧ (¬ r5 = (1 : Int32) → ¬ r5 = (2 : Int32) → ¬ r5 = (3 : Int32) → Q r2 σ4)))
def rmX6_height : Room := { frames := 1, cells := 0, slots := 0, locals := 22 }
theorem hdX6_height : yX6_height.cls = RX6 ∧ yX6_height.cls ≠ "java/lang/invoke/MethodHandle" ∧ yX6_height.cls ≠ "java/lang/invoke/VarHandle" ∧ (parseMethodDescriptor yX6_height.desc).map (fun d => d.parameters.length) = some 1 := by decide +kernel
set_option maxHeartbeats 4000000 in
set_option maxRecDepth 100000 in
theorem c_X6_height {l : Launch} {E : EE} {a1 : Int32}  {σ : Mem} {Q : Int32 → Mem → Prop} (h : wp_X6_height a1 σ Q) : CtI l yX6_height wsX6_height rmX6_height E [.ref (eA E 64), .int a1] σ Q := by
  refine metI (cc := cX6_height) (nL := 4) (ret := (some .int)) (lv := [(0, .ref (eA E 64)), (1, .int a1)]) (by decide) rfl (Nat.le_of_ble_eq_true rfl) rfl ?_
  intro p e s m args below meth c C
  unfold wp_X6_height at h
  refine j_aload_n C 0 dX6_height_0 rfl 0 rfl ?_
  refine j_iload_n C 1 dX6_height_1 rfl 1 rfl ?_
  refine j_iconst (v := (2 : Int32)) C dX6_height_2 (by decide) ?_
  refine j_callVI (As := [.int a1, .int (2 : Int32)]) (rest := []) C 64 (c_X6_of h) (cwV 2 C.2.2.2.2.2.1 gX6_height_X6_of rfl rfl rfl hdX6_of ⟨Nat.le_of_ble_eq_true rfl, Nat.le_of_ble_eq_true rfl⟩) rfl rfl rfl rfl (Nat.le_of_ble_eq_true rfl) dX6_height_3 (fun r2 σ1 h => ?_)
  refine j_istore_n (lv' := [(2, .int r2), (0, .ref (eA E 64)), (1, .int a1)]) C 2 dX6_height_6 rfl (by decide) rfl ?_
  refine j_iload_n C 2 dX6_height_7 rfl 0 rfl ?_
  refine j_iload_n C 2 dX6_height_8 rfl 0 rfl ?_
  refine j_iconst (v := (1 : Int32)) C dX6_height_9 (by decide) ?_
  refine j_iadd C dX6_height_10 ?_
  refine j_iconst (v := (2 : Int32)) C dX6_height_11 (by decide) ?_
  refine j_idiv C dX6_height_12 (by decide) ?_
  refine j_iadd C dX6_height_13 ?_
  refine j_topi (fun v3 ev3 => ?_)
  replace h := h v3 ev3
  refine j_istore_n (lv' := [(3, .int v3), (2, .int r2), (0, .ref (eA E 64)), (1, .int a1)]) C 3 dX6_height_14 rfl (by decide) rfl ?_
  refine j_aload_n C 0 dX6_height_15 rfl 2 rfl ?_
  refine j_iload_n C 1 dX6_height_16 rfl 3 rfl ?_
  refine j_iconst (v := (0 : Int32)) C dX6_height_17 (by decide) ?_
  refine j_callVI (As := [.int a1, .int (0 : Int32)]) (rest := []) C 64 (c_X6_of h) (cwV 2 C.2.2.2.2.2.1 gX6_height_X6_of rfl rfl rfl hdX6_of ⟨Nat.le_of_ble_eq_true rfl, Nat.le_of_ble_eq_true rfl⟩) rfl rfl rfl rfl (Nat.le_of_ble_eq_true rfl) dX6_height_18 (fun r5 σ4 h => ?_)
  by_cases c6 : r5 = (1 : Int32)
  · replace h := h.1 c6
    refine j_tabIn (off := 27) C 48 dX6_height_21 (1 : Int32) c6 (by decide) (by decide) (by decide) (by decide) ?_
    refine j_iload_n C 3 dX6_height_48 rfl 0 rfl ?_
    exact j_iret C dX6_height_49 h
  by_cases c7 : r5 = (2 : Int32)
  · replace h := h.2.1 c7
    refine j_tabIn (off := 29) C 50 dX6_height_21 (2 : Int32) c7 (by decide) (by decide) (by decide) (by decide) ?_
    refine j_iload_n C 3 dX6_height_50 rfl 0 rfl ?_
    refine j_iconst (v := (2 : Int32)) C dX6_height_51 (by decide) ?_
    refine j_idiv C dX6_height_52 (by decide) ?_
    exact j_iret C dX6_height_53 h
  by_cases c8 : r5 = (3 : Int32)
  · replace h := h.2.2.1 c8
    refine j_tabIn (off := 33) C 54 dX6_height_21 (3 : Int32) c8 (by decide) (by decide) (by decide) (by decide) ?_
    refine j_iload_n C 3 dX6_height_54 rfl 0 rfl ?_
    refine j_iconst (v := (2 : Int32)) C dX6_height_55 (by decide) ?_
    refine j_idiv C dX6_height_56 (by decide) ?_
    refine j_if_le C 68 dX6_height_57 (by decide) (fun c9 => ?_) (fun c9 => ?_)
    · replace h := h.1 c9
      refine j_iconst (v := (0 : Int32)) C dX6_height_68 (by decide) ?_
      exact j_iret C dX6_height_69 h
    · replace h := h.2 c9
      refine j_iload_n C 3 dX6_height_60 rfl 0 rfl ?_
      refine j_iconst (v := (2 : Int32)) C dX6_height_61 (by decide) ?_
      refine j_idiv C dX6_height_62 (by decide) ?_
      refine j_iconst (v := (1 : Int32)) C dX6_height_63 (by decide) ?_
      refine j_isub C dX6_height_64 ?_
      refine j_goto C 69 dX6_height_65 (by decide) ?_
      exact j_iret C dX6_height_69 h
  replace h := h.2.2.2 c6 c7 c8
  refine j_tabOut C 70 dX6_height_21 (tab_out (lo := 1) (hi := 3) (fun v h1 h2 => by rcases (show v = 1 ∨ v = 2 ∨ v = 3 by omega) with rfl | rfl | rfl <;> assumption)) (by decide) ?_
  refine j_iload_n C 2 dX6_height_70 rfl 1 rfl ?_
  exact j_iret C dX6_height_71 h
def wp_X6_goesBehind (a1 : Int32) (σ : Mem) (Q : Mem → Prop) : Prop :=
  ∀ (P12 : Int32 → Int32 → Mem → Prop),
  (∀ (x2 : Int32) (x3 : Int32) (σ : Mem), ((((σ.1 66 ((24 : Int32)).toNatClampNeg) - (1 : Int32)) ≤ x3 → vp_in (((25 : Int32) + (σ.1 66 ((24 : Int32)).toNatClampNeg)) - (1 : Int32)) 49 ∧ (∀ σ2 : Mem, σ2 = st1 σ 66 ((((25 : Int32) + (σ.1 66 ((24 : Int32)).toNatClampNeg)) - (1 : Int32))).toNatClampNeg x2 → Q σ2)) ∧ (¬ ((σ.1 66 ((24 : Int32)).toNatClampNeg) - (1 : Int32)) ≤ x3 → vp_in (((25 : Int32) + x3) + (1 : Int32)) 49 ∧ (vp_in ((25 : Int32) + x3) 49 ∧ (∀ σ3 : Mem, σ3 = st1 σ 66 (((25 : Int32) + x3)).toNatClampNeg (σ.1 66 ((((25 : Int32) + x3) + (1 : Int32))).toNatClampNeg) → ∀ v4 : Int32, v4 = x3 + (1 : Int32) → P12 x2 v4 σ3)))) → P12 x2 x3 σ) →
  vp_in ((25 : Int32) + a1) 49 ∧ (∀ v5 : Int32, v5 = (σ.1 66 (((25 : Int32) + a1)).toNatClampNeg) → P12 v5 a1 σ)
theorem in_X6_goesBehind_X6 : ∀ w ∈ wsX60, w ∈ wsX6_goesBehind := fun _ h => List.mem_cons_of_mem _ (List.mem_append_right _ h)
def rmX6_goesBehind : Room := { frames := 0, cells := 0, slots := 0, locals := 0 }
theorem hdX6_goesBehind : yX6_goesBehind.cls = RX6 ∧ yX6_goesBehind.cls ≠ "java/lang/invoke/MethodHandle" ∧ yX6_goesBehind.cls ≠ "java/lang/invoke/VarHandle" ∧ (parseMethodDescriptor yX6_goesBehind.desc).map (fun d => d.parameters.length) = some 1 := by decide +kernel
set_option maxHeartbeats 4000000 in
set_option maxRecDepth 100000 in
theorem c_X6_goesBehind {l : Launch} {E : EE} {a1 : Int32}  {σ : Mem} {Q : Mem → Prop} (h : wp_X6_goesBehind a1 σ Q) : CtV l yX6_goesBehind wsX6_goesBehind rmX6_goesBehind E [.ref (eA E 64), .int a1] σ Q := by
  refine metV (cc := cX6_goesBehind) (nL := 4) (ret := none) (lv := [(0, .ref (eA E 64)), (1, .int a1)]) (by decide) rfl (Nat.le_of_ble_eq_true rfl) rfl ?_
  intro p e s m args below meth c C
  unfold wp_X6_goesBehind at h
  replace h := h (fun (x2 : Int32) (x3 : Int32) (σ : Mem) => J E p l e rmX6_goesBehind s m args below meth c (QV E below args s Q) 4 12 [(0, .ref (eA E 64)), (2, .int x2), (3, .int x3)] [] σ) (by
    intro x2 x3 σ h
    refine j_iload_n C 3 dX6_goesBehind_12 rfl 2 rfl ?_
    refine j_aload_n C 0 dX6_goesBehind_13 rfl 0 rfl ?_
    refine j_getR C 66 64 1 rfl rfl rfl in_X6_goesBehind_X6 (by decide) (by decide +kernel) dX6_goesBehind_14 ?_
    refine j_bipush (v := (24 : Int32)) C dX6_goesBehind_17 (by decide) ?_
    refine j_iald C 66 rfl dX6_goesBehind_19 (in_lit rfl) ?_
    refine j_iconst (v := (1 : Int32)) C dX6_goesBehind_20 (by decide) ?_
    refine j_isub C dX6_goesBehind_21 ?_
    refine j_icmp_ge C 51 dX6_goesBehind_22 (by decide) (fun c1 => ?_) (fun c1 => ?_)
    · replace h := h.1 c1
      refine j_aload_n C 0 dX6_goesBehind_51 rfl 0 rfl ?_
      refine j_getR C 66 64 1 rfl rfl rfl in_X6_goesBehind_X6 (by decide) (by decide +kernel) dX6_goesBehind_52 ?_
      refine j_bipush (v := (25 : Int32)) C dX6_goesBehind_55 (by decide) ?_
      refine j_aload_n C 0 dX6_goesBehind_57 rfl 0 rfl ?_
      refine j_getR C 66 64 1 rfl rfl rfl in_X6_goesBehind_X6 (by decide) (by decide +kernel) dX6_goesBehind_58 ?_
      refine j_bipush (v := (24 : Int32)) C dX6_goesBehind_61 (by decide) ?_
      refine j_iald C 66 rfl dX6_goesBehind_63 (in_lit rfl) ?_
      refine j_iadd C dX6_goesBehind_64 ?_
      refine j_iconst (v := (1 : Int32)) C dX6_goesBehind_65 (by decide) ?_
      refine j_isub C dX6_goesBehind_66 ?_
      refine j_iload_n C 2 dX6_goesBehind_67 rfl 1 rfl ?_
      refine j_iast C 66 rfl dX6_goesBehind_68 h.1 ?_
      replace h := h.2
      refine j_mem (fun σ2 eσ2 => ?_)
      replace h := h σ2 eσ2
      exact j_vret C dX6_goesBehind_69 h
    · replace h := h.2 c1
      refine j_aload_n C 0 dX6_goesBehind_25 rfl 0 rfl ?_
      refine j_getR C 66 64 1 rfl rfl rfl in_X6_goesBehind_X6 (by decide) (by decide +kernel) dX6_goesBehind_26 ?_
      refine j_bipush (v := (25 : Int32)) C dX6_goesBehind_29 (by decide) ?_
      refine j_iload_n C 3 dX6_goesBehind_31 rfl 2 rfl ?_
      refine j_iadd C dX6_goesBehind_32 ?_
      refine j_aload_n C 0 dX6_goesBehind_33 rfl 0 rfl ?_
      refine j_getR C 66 64 1 rfl rfl rfl in_X6_goesBehind_X6 (by decide) (by decide +kernel) dX6_goesBehind_34 ?_
      refine j_bipush (v := (25 : Int32)) C dX6_goesBehind_37 (by decide) ?_
      refine j_iload_n C 3 dX6_goesBehind_39 rfl 2 rfl ?_
      refine j_iadd C dX6_goesBehind_40 ?_
      refine j_iconst (v := (1 : Int32)) C dX6_goesBehind_41 (by decide) ?_
      refine j_iadd C dX6_goesBehind_42 ?_
      refine j_iald C 66 rfl dX6_goesBehind_43 h.1 ?_
      replace h := h.2
      refine j_iast C 66 rfl dX6_goesBehind_44 h.1 ?_
      replace h := h.2
      refine j_mem (fun σ3 eσ3 => ?_)
      replace h := h σ3 eσ3
      obtain ⟨v4, ev4⟩ : ∃ y : Int32, y = x3 + (1 : Int32) := ⟨_, rfl⟩
      replace h := h v4 ev4
      refine j_iinc (v := v4) (lv' := [(3, .int v4), (0, .ref (eA E 64)), (2, .int x2)]) C 3 dX6_goesBehind_45 2 rfl (by rw [ev4]; rfl) (by decide) rfl ?_
      refine j_goto C 12 dX6_goesBehind_48 (by decide) ?_
      exact j_sub (lv' := [(0, .ref (eA E 64)), (2, .int x2), (3, .int v4)]) [1, 2, 0] rfl h)
  refine j_aload_n C 0 dX6_goesBehind_0 rfl 0 rfl ?_
  refine j_getR C 66 64 1 rfl rfl rfl in_X6_goesBehind_X6 (by decide) (by decide +kernel) dX6_goesBehind_1 ?_
  refine j_bipush (v := (25 : Int32)) C dX6_goesBehind_4 (by decide) ?_
  refine j_iload_n C 1 dX6_goesBehind_6 rfl 1 rfl ?_
  refine j_iadd C dX6_goesBehind_7 ?_
  refine j_iald C 66 rfl dX6_goesBehind_8 h.1 ?_
  replace h := h.2
  refine j_topi (fun v5 ev5 => ?_)
  replace h := h v5 ev5
  refine j_istore_n (lv' := [(2, .int v5), (0, .ref (eA E 64)), (1, .int a1)]) C 2 dX6_goesBehind_9 rfl (by decide) rfl ?_
  refine j_iload_n C 1 dX6_goesBehind_10 rfl 2 rfl ?_
  refine j_istore_n (lv' := [(3, .int a1), (2, .int v5), (0, .ref (eA E 64)), (1, .int a1)]) C 3 dX6_goesBehind_11 rfl (by decide) rfl ?_
  exact j_sub (lv' := [(0, .ref (eA E 64)), (2, .int v5), (3, .int a1)]) [2, 1, 0] rfl h
def wp_X6_reignGoes (a1 : Int32) (σ : Mem) (Q : Mem → Prop) : Prop :=
  ∀ (P47 : Mem → Prop) (P52 : Int32 → Mem → Prop) (P88 : Int32 → Mem → Prop) (P173 : Int32 → Mem → Prop) (P202 : Int32 → Int32 → Mem → Prop) (P248 : Int32 → Int32 → Int32 → Mem → Prop),
  (∀ (σ : Mem), (P52 (1 : Int32) σ) → P47 σ) →
  (∀ (s0 : Int32) (σ : Mem), ((s0 = 0 ∨ s0 = 1) ∧ (∀ σ1 : Mem, σ1 = st1 σ 64 19 s0 → ((σ1.1 64 19) = 0 → wp_X6_of ((σ1.1 64 17)) (3 : Int32) σ1 (fun r4 σ3 => P88 r4 σ3)) ∧ (¬ (σ1.1 64 19) = 0 → wp_X6_of ((σ1.1 64 17)) (3 : Int32) σ1 (fun r6 σ5 => P88 (((r6 + (1 : Int32)) / (2 : Int32))) σ5)))) → P52 s0 σ) →
  (∀ (s0 : Int32) (σ : Mem), (∀ σ7 : Mem, σ7 = st1 σ 64 18 s0 → ∀ σ8 : Mem, σ8 = st1 σ7 66 ((33 : Int32)).toNatClampNeg ((σ7.1 66 ((33 : Int32)).toNatClampNeg) + (1 : Int32)) → ∀ σ9 : Mem, σ9 = st1 σ8 66 ((34 : Int32)).toNatClampNeg ((σ8.1 66 ((34 : Int32)).toNatClampNeg) + (σ8.1 64 18)) → wp_X6_flag ((σ9.1 64 19)) σ9 (fun r11 σ10 => ∀ σ12 : Mem, σ12 = st1 σ10 66 ((35 : Int32)).toNatClampNeg ((σ9.1 66 ((35 : Int32)).toNatClampNeg) + r11) → (¬ ((σ12.1 66 ((33 : Int32)).toNatClampNeg) - (σ12.1 66 ((33 : Int32)).toNatClampNeg) / (2 : Int32) * (2 : Int32)) = (1 : Int32) → P173 (((σ12.1 66 ((32 : Int32)).toNatClampNeg) - (σ12.1 64 18))) σ12) ∧ (((σ12.1 66 ((33 : Int32)).toNatClampNeg) - (σ12.1 66 ((33 : Int32)).toNatClampNeg) / (2 : Int32) * (2 : Int32)) = (1 : Int32) → P173 (((σ12.1 66 ((32 : Int32)).toNatClampNeg) + (σ12.1 64 18))) σ12))) → P88 s0 σ) →
  (∀ (s0 : Int32) (σ : Mem), ((0 ≤ s0 → (s0 ≤ (999 : Int32) → P202 s0 (32 : Int32) σ) ∧ (¬ s0 ≤ (999 : Int32) → P202 (999 : Int32) (32 : Int32) σ)) ∧ (¬ 0 ≤ s0 → P202 (0 : Int32) (32 : Int32) σ)) → P173 s0 σ) →
  (∀ (s0 : Int32) (s1 : Int32) (σ : Mem), (vp_in s1 49 ∧ (∀ σ16 : Mem, σ16 = st1 σ 66 (s1).toNatClampNeg s0 → ((σ16.1 64 19) = 0 → wp_X6_goesBehind (0 : Int32) σ16 (fun σ18 => wp_X6_goesBehind (0 : Int32) σ18 (fun σ19 => Q σ19))) ∧ (¬ (σ16.1 64 19) = 0 → wp_X6_goesBehind (1 : Int32) σ16 (fun σ20 => wp_X6_of ((σ20.1 64 17)) (1 : Int32) σ20 (fun r22 σ21 => (r22 ≤ 0 → P248 (0 : Int32) (1 : Int32) ((σ20.1 64 17)) σ21) ∧ (¬ r22 ≤ 0 → wp_X6_of ((σ21.1 64 17)) (1 : Int32) σ21 (fun r25 σ24 => P248 ((r25 - (1 : Int32))) (1 : Int32) ((σ20.1 64 17)) σ24))))))) → P202 s0 s1 σ) →
  (∀ (s0 : Int32) (s1 : Int32) (s2 : Int32) (σ : Mem), (wp_X6_becomesOf s2 s1 s0 σ (fun σ26 => Q σ26)) → P248 s0 s1 s2 σ) →
  ∀ σ27 : Mem, σ27 = st1 σ 64 17 (σ.1 66 ((26 : Int32)).toNatClampNeg) → (¬ a1 = 0 → P47 σ27) ∧ (a1 = 0 → wp_X6_of ((σ27.1 64 17)) (1 : Int32) σ27 (fun r30 σ29 => wp_X6_height ((σ29.1 66 ((25 : Int32)).toNatClampNeg)) σ29 (fun r32 σ31 => (r32 ≤ (r30 - (σ29.1 66 ((31 : Int32)).toNatClampNeg)) → P52 (0 : Int32) σ31) ∧ (¬ r32 ≤ (r30 - (σ29.1 66 ((31 : Int32)).toNatClampNeg)) → P47 σ31))))
theorem in_X6_reignGoes_X6 : ∀ w ∈ wsX60, w ∈ wsX6_reignGoes := fun _ h => List.mem_cons_of_mem _ (List.mem_append_right _ h)
def rmX6_reignGoes : Room := { frames := 2, cells := 0, slots := 0, locals := 45 }
theorem hdX6_reignGoes : yX6_reignGoes.cls = RX6 ∧ yX6_reignGoes.cls ≠ "java/lang/invoke/MethodHandle" ∧ yX6_reignGoes.cls ≠ "java/lang/invoke/VarHandle" ∧ (parseMethodDescriptor yX6_reignGoes.desc).map (fun d => d.parameters.length) = some 1 := by decide +kernel
set_option maxHeartbeats 4000000 in
set_option maxRecDepth 100000 in
theorem c_X6_reignGoes {l : Launch} {E : EE} {a1 : Int32}  {σ : Mem} {Q : Mem → Prop} (h : wp_X6_reignGoes a1 σ Q) : CtV l yX6_reignGoes wsX6_reignGoes rmX6_reignGoes E [.ref (eA E 64), .int a1] σ Q := by
  refine metV (cc := cX6_reignGoes) (nL := 3) (ret := none) (lv := [(0, .ref (eA E 64)), (1, .int a1)]) (by decide) rfl (Nat.le_of_ble_eq_true rfl) rfl ?_
  intro p e s m args below meth c C
  unfold wp_X6_reignGoes at h
  replace h := h (fun (σ : Mem) => J E p l e rmX6_reignGoes s m args below meth c (QV E below args s Q) 3 47 [(0, .ref (eA E 64))] [.ref (eA E 64)] σ) (fun (s0 : Int32) (σ : Mem) => J E p l e rmX6_reignGoes s m args below meth c (QV E below args s Q) 3 52 [(0, .ref (eA E 64))] [.int s0, .ref (eA E 64)] σ) (fun (s0 : Int32) (σ : Mem) => J E p l e rmX6_reignGoes s m args below meth c (QV E below args s Q) 3 88 [(0, .ref (eA E 64))] [.int s0, .ref (eA E 64)] σ) (fun (s0 : Int32) (σ : Mem) => J E p l e rmX6_reignGoes s m args below meth c (QV E below args s Q) 3 173 [(0, .ref (eA E 64))] [.int s0] σ) (fun (s0 : Int32) (s1 : Int32) (σ : Mem) => J E p l e rmX6_reignGoes s m args below meth c (QV E below args s Q) 3 202 [(0, .ref (eA E 64))] [.int s0, .int s1, .ref (eA E 66)] σ) (fun (s0 : Int32) (s1 : Int32) (s2 : Int32) (σ : Mem) => J E p l e rmX6_reignGoes s m args below meth c (QV E below args s Q) 3 248 [] [.int s0, .int s1, .int s2, .ref (eA E 64)] σ) (by
    intro σ h
    refine j_iconst (v := (1 : Int32)) C dX6_reignGoes_47 (by decide) ?_
    refine j_goto C 52 dX6_reignGoes_48 (by decide) ?_
    exact j_sub (lv' := [(0, .ref (eA E 64))]) [0] rfl h) (by
    intro s0 σ h
    refine j_put C 64 19 rfl rfl rfl in_X6_reignGoes_X6 tyX6 tyX6_ok nmX6 (by decide) (by decide +kernel) rfl rfl (b_nar h.1) (b_fit h.1) dX6_reignGoes_52 ?_
    replace h := h.2
    refine j_mem (fun σ1 eσ1 => ?_)
    replace h := h σ1 eσ1
    refine j_aload_n C 0 dX6_reignGoes_55 rfl 0 rfl ?_
    refine j_aload_n C 0 dX6_reignGoes_56 rfl 0 rfl ?_
    refine j_getI C 64 19 rfl rfl rfl in_X6_reignGoes_X6 (by decide) (by decide +kernel) dX6_reignGoes_57 ?_
    refine j_if_eq C 79 dX6_reignGoes_60 (by decide) (fun c2 => ?_) (fun c2 => ?_)
    · replace h := h.1 c2
      refine j_aload_n C 0 dX6_reignGoes_79 rfl 0 rfl ?_
      refine j_aload_n C 0 dX6_reignGoes_80 rfl 0 rfl ?_
      refine j_getI C 64 17 rfl rfl rfl in_X6_reignGoes_X6 (by decide) (by decide +kernel) dX6_reignGoes_81 ?_
      refine j_iconst (v := (3 : Int32)) C dX6_reignGoes_84 (by decide) ?_
      refine j_callVI (As := [.int (σ1.1 64 17), .int (3 : Int32)]) (rest := [.ref (eA E 64)]) C 64 (c_X6_of h) (cwV 2 C.2.2.2.2.2.1 gX6_reignGoes_X6_of rfl rfl rfl hdX6_of ⟨Nat.le_of_ble_eq_true rfl, Nat.le_of_ble_eq_true rfl⟩) rfl rfl rfl rfl (Nat.le_of_ble_eq_true rfl) dX6_reignGoes_85 (fun r4 σ3 h => ?_)
      exact j_sub (lv' := [(0, .ref (eA E 64))]) [0] rfl h
    · replace h := h.2 c2
      refine j_aload_n C 0 dX6_reignGoes_63 rfl 0 rfl ?_
      refine j_aload_n C 0 dX6_reignGoes_64 rfl 0 rfl ?_
      refine j_getI C 64 17 rfl rfl rfl in_X6_reignGoes_X6 (by decide) (by decide +kernel) dX6_reignGoes_65 ?_
      refine j_iconst (v := (3 : Int32)) C dX6_reignGoes_68 (by decide) ?_
      refine j_callVI (As := [.int (σ1.1 64 17), .int (3 : Int32)]) (rest := [.ref (eA E 64)]) C 64 (c_X6_of h) (cwV 2 C.2.2.2.2.2.1 gX6_reignGoes_X6_of rfl rfl rfl hdX6_of ⟨Nat.le_of_ble_eq_true rfl, Nat.le_of_ble_eq_true rfl⟩) rfl rfl rfl rfl (Nat.le_of_ble_eq_true rfl) dX6_reignGoes_69 (fun r6 σ5 h => ?_)
      refine j_iconst (v := (1 : Int32)) C dX6_reignGoes_72 (by decide) ?_
      refine j_iadd C dX6_reignGoes_73 ?_
      refine j_iconst (v := (2 : Int32)) C dX6_reignGoes_74 (by decide) ?_
      refine j_idiv C dX6_reignGoes_75 (by decide) ?_
      refine j_goto C 88 dX6_reignGoes_76 (by decide) ?_
      exact j_sub (lv' := [(0, .ref (eA E 64))]) [0] rfl h) (by
    intro s0 σ h
    refine j_put C 64 18 rfl rfl rfl in_X6_reignGoes_X6 tyX6 tyX6_ok nmX6 (by decide) (by decide +kernel) rfl rfl rfl rfl dX6_reignGoes_88 ?_
    refine j_mem (fun σ7 eσ7 => ?_)
    replace h := h σ7 eσ7
    refine j_aload_n C 0 dX6_reignGoes_91 rfl 0 rfl ?_
    refine j_getR C 66 64 1 rfl rfl rfl in_X6_reignGoes_X6 (by decide) (by decide +kernel) dX6_reignGoes_92 ?_
    refine j_bipush (v := (33 : Int32)) C dX6_reignGoes_95 (by decide) ?_
    refine j_dup2 C dX6_reignGoes_97 rfl rfl ?_
    refine j_iald C 66 rfl dX6_reignGoes_98 (in_lit rfl) ?_
    refine j_iconst (v := (1 : Int32)) C dX6_reignGoes_99 (by decide) ?_
    refine j_iadd C dX6_reignGoes_100 ?_
    refine j_iast C 66 rfl dX6_reignGoes_101 (in_lit rfl) ?_
    refine j_mem (fun σ8 eσ8 => ?_)
    replace h := h σ8 eσ8
    refine j_aload_n C 0 dX6_reignGoes_102 rfl 0 rfl ?_
    refine j_getR C 66 64 1 rfl rfl rfl in_X6_reignGoes_X6 (by decide) (by decide +kernel) dX6_reignGoes_103 ?_
    refine j_bipush (v := (34 : Int32)) C dX6_reignGoes_106 (by decide) ?_
    refine j_dup2 C dX6_reignGoes_108 rfl rfl ?_
    refine j_iald C 66 rfl dX6_reignGoes_109 (in_lit rfl) ?_
    refine j_aload_n C 0 dX6_reignGoes_110 rfl 0 rfl ?_
    refine j_getI C 64 18 rfl rfl rfl in_X6_reignGoes_X6 (by decide) (by decide +kernel) dX6_reignGoes_111 ?_
    refine j_iadd C dX6_reignGoes_114 ?_
    refine j_iast C 66 rfl dX6_reignGoes_115 (in_lit rfl) ?_
    refine j_mem (fun σ9 eσ9 => ?_)
    replace h := h σ9 eσ9
    refine j_aload_n C 0 dX6_reignGoes_116 rfl 0 rfl ?_
    refine j_getR C 66 64 1 rfl rfl rfl in_X6_reignGoes_X6 (by decide) (by decide +kernel) dX6_reignGoes_117 ?_
    refine j_bipush (v := (35 : Int32)) C dX6_reignGoes_120 (by decide) ?_
    refine j_dup2 C dX6_reignGoes_122 rfl rfl ?_
    refine j_iald C 66 rfl dX6_reignGoes_123 (in_lit rfl) ?_
    refine j_aload_n C 0 dX6_reignGoes_124 rfl 0 rfl ?_
    refine j_getI C 64 19 rfl rfl rfl in_X6_reignGoes_X6 (by decide) (by decide +kernel) dX6_reignGoes_125 ?_
    refine j_callSI (As := [.int (σ9.1 64 19)]) (rest := [.int (σ9.1 66 ((35 : Int32)).toNatClampNeg), .int (35 : Int32), .ref (eA E 66)]) C (c_X6_flag h) (va_cwS 1 C.2.2.2.2.2.1 gX6_reignGoes_X6_flag rfl rfl rfl hdX6_flag.2 ⟨Nat.le_of_ble_eq_true rfl, Nat.le_of_ble_eq_true rfl⟩) rfl rfl (Nat.le_of_ble_eq_true rfl) dX6_reignGoes_128 (fun r11 σ10 h => ?_)
    refine j_iadd C dX6_reignGoes_131 ?_
    refine j_iast C 66 rfl dX6_reignGoes_132 (in_lit rfl) ?_
    refine j_mem (fun σ12 eσ12 => ?_)
    replace h := h σ12 eσ12
    refine j_aload_n C 0 dX6_reignGoes_133 rfl 0 rfl ?_
    refine j_getR C 66 64 1 rfl rfl rfl in_X6_reignGoes_X6 (by decide) (by decide +kernel) dX6_reignGoes_134 ?_
    refine j_bipush (v := (33 : Int32)) C dX6_reignGoes_137 (by decide) ?_
    refine j_iald C 66 rfl dX6_reignGoes_139 (in_lit rfl) ?_
    refine j_iconst (v := (2 : Int32)) C dX6_reignGoes_140 (by decide) ?_
    refine j_irem C dX6_reignGoes_141 (by decide) ?_
    refine j_iconst (v := (1 : Int32)) C dX6_reignGoes_142 (by decide) ?_
    refine j_icmp_ne C 161 dX6_reignGoes_143 (by decide) (fun c13 => ?_) (fun c13 => ?_)
    · replace h := h.1 c13
      refine j_aload_n C 0 dX6_reignGoes_161 rfl 0 rfl ?_
      refine j_getR C 66 64 1 rfl rfl rfl in_X6_reignGoes_X6 (by decide) (by decide +kernel) dX6_reignGoes_162 ?_
      refine j_bipush (v := (32 : Int32)) C dX6_reignGoes_165 (by decide) ?_
      refine j_iald C 66 rfl dX6_reignGoes_167 (in_lit rfl) ?_
      refine j_aload_n C 0 dX6_reignGoes_168 rfl 0 rfl ?_
      refine j_getI C 64 18 rfl rfl rfl in_X6_reignGoes_X6 (by decide) (by decide +kernel) dX6_reignGoes_169 ?_
      refine j_isub C dX6_reignGoes_172 ?_
      exact j_sub (lv' := [(0, .ref (eA E 64))]) [0] rfl h
    · replace h := h.2 c13
      refine j_aload_n C 0 dX6_reignGoes_146 rfl 0 rfl ?_
      refine j_getR C 66 64 1 rfl rfl rfl in_X6_reignGoes_X6 (by decide) (by decide +kernel) dX6_reignGoes_147 ?_
      refine j_bipush (v := (32 : Int32)) C dX6_reignGoes_150 (by decide) ?_
      refine j_iald C 66 rfl dX6_reignGoes_152 (in_lit rfl) ?_
      refine j_aload_n C 0 dX6_reignGoes_153 rfl 0 rfl ?_
      refine j_getI C 64 18 rfl rfl rfl in_X6_reignGoes_X6 (by decide) (by decide +kernel) dX6_reignGoes_154 ?_
      refine j_iadd C dX6_reignGoes_157 ?_
      refine j_goto C 173 dX6_reignGoes_158 (by decide) ?_
      exact j_sub (lv' := [(0, .ref (eA E 64))]) [0] rfl h) (by
    intro s0 σ h
    refine j_istore_n (lv' := [(2, .int s0), (0, .ref (eA E 64))]) C 2 dX6_reignGoes_173 rfl (by decide) rfl ?_
    refine j_aload_n C 0 dX6_reignGoes_174 rfl 1 rfl ?_
    refine j_getR C 66 64 1 rfl rfl rfl in_X6_reignGoes_X6 (by decide) (by decide +kernel) dX6_reignGoes_175 ?_
    refine j_bipush (v := (32 : Int32)) C dX6_reignGoes_178 (by decide) ?_
    refine j_iload_n C 2 dX6_reignGoes_180 rfl 0 rfl ?_
    refine j_if_ge C 188 dX6_reignGoes_181 (by decide) (fun c14 => ?_) (fun c14 => ?_)
    · replace h := h.1 c14
      refine j_iload_n C 2 dX6_reignGoes_188 rfl 0 rfl ?_
      refine j_sipush (v := (999 : Int32)) C dX6_reignGoes_189 (by decide) ?_
      refine j_icmp_le C 201 dX6_reignGoes_192 (by decide) (fun c15 => ?_) (fun c15 => ?_)
      · replace h := h.1 c15
        refine j_iload_n C 2 dX6_reignGoes_201 rfl 0 rfl ?_
        exact j_sub (lv' := [(0, .ref (eA E 64))]) [1] rfl h
      · replace h := h.2 c15
        refine j_sipush (v := (999 : Int32)) C dX6_reignGoes_195 (by decide) ?_
        refine j_goto C 202 dX6_reignGoes_198 (by decide) ?_
        exact j_sub (lv' := [(0, .ref (eA E 64))]) [1] rfl h
    · replace h := h.2 c14
      refine j_iconst (v := (0 : Int32)) C dX6_reignGoes_184 (by decide) ?_
      refine j_goto C 202 dX6_reignGoes_185 (by decide) ?_
      exact j_sub (lv' := [(0, .ref (eA E 64))]) [1] rfl h) (by
    intro s0 s1 σ h
    refine j_iast C 66 rfl dX6_reignGoes_202 h.1 ?_
    replace h := h.2
    refine j_mem (fun σ16 eσ16 => ?_)
    replace h := h σ16 eσ16
    refine j_aload_n C 0 dX6_reignGoes_203 rfl 0 rfl ?_
    refine j_getI C 64 19 rfl rfl rfl in_X6_reignGoes_X6 (by decide) (by decide +kernel) dX6_reignGoes_204 ?_
    refine j_if_eq C 254 dX6_reignGoes_207 (by decide) (fun c17 => ?_) (fun c17 => ?_)
    · replace h := h.1 c17
      refine j_aload_n C 0 dX6_reignGoes_254 rfl 0 rfl ?_
      refine j_iconst (v := (0 : Int32)) C dX6_reignGoes_255 (by decide) ?_
      refine j_callVV (As := [.int (0 : Int32)]) (rest := []) C 64 (c_X6_goesBehind h) (cwV 1 C.2.2.2.2.2.1 gX6_reignGoes_X6_goesBehind rfl rfl rfl hdX6_goesBehind ⟨Nat.le_of_ble_eq_true rfl, Nat.le_of_ble_eq_true rfl⟩) rfl rfl rfl rfl (Nat.le_of_ble_eq_true rfl) dX6_reignGoes_256 (fun σ18 h => ?_)
      refine j_aload_n C 0 dX6_reignGoes_259 rfl 0 rfl ?_
      refine j_iconst (v := (0 : Int32)) C dX6_reignGoes_260 (by decide) ?_
      refine j_callVV (As := [.int (0 : Int32)]) (rest := []) C 64 (c_X6_goesBehind h) (cwV 1 C.2.2.2.2.2.1 gX6_reignGoes_X6_goesBehind rfl rfl rfl hdX6_goesBehind ⟨Nat.le_of_ble_eq_true rfl, Nat.le_of_ble_eq_true rfl⟩) rfl rfl rfl rfl (Nat.le_of_ble_eq_true rfl) dX6_reignGoes_261 (fun σ19 h => ?_)
      exact j_vret C dX6_reignGoes_264 h
    · replace h := h.2 c17
      refine j_aload_n C 0 dX6_reignGoes_210 rfl 0 rfl ?_
      refine j_iconst (v := (1 : Int32)) C dX6_reignGoes_211 (by decide) ?_
      refine j_callVV (As := [.int (1 : Int32)]) (rest := []) C 64 (c_X6_goesBehind h) (cwV 1 C.2.2.2.2.2.1 gX6_reignGoes_X6_goesBehind rfl rfl rfl hdX6_goesBehind ⟨Nat.le_of_ble_eq_true rfl, Nat.le_of_ble_eq_true rfl⟩) rfl rfl rfl rfl (Nat.le_of_ble_eq_true rfl) dX6_reignGoes_212 (fun σ20 h => ?_)
      refine j_aload_n C 0 dX6_reignGoes_215 rfl 0 rfl ?_
      refine j_aload_n C 0 dX6_reignGoes_216 rfl 0 rfl ?_
      refine j_getI C 64 17 rfl rfl rfl in_X6_reignGoes_X6 (by decide) (by decide +kernel) dX6_reignGoes_217 ?_
      refine j_iconst (v := (1 : Int32)) C dX6_reignGoes_220 (by decide) ?_
      refine j_aload_n C 0 dX6_reignGoes_221 rfl 0 rfl ?_
      refine j_aload_n C 0 dX6_reignGoes_222 rfl 0 rfl ?_
      refine j_getI C 64 17 rfl rfl rfl in_X6_reignGoes_X6 (by decide) (by decide +kernel) dX6_reignGoes_223 ?_
      refine j_iconst (v := (1 : Int32)) C dX6_reignGoes_226 (by decide) ?_
      refine j_callVI (As := [.int (σ20.1 64 17), .int (1 : Int32)]) (rest := [.int (1 : Int32), .int (σ20.1 64 17), .ref (eA E 64)]) C 64 (c_X6_of h) (cwV 2 C.2.2.2.2.2.1 gX6_reignGoes_X6_of rfl rfl rfl hdX6_of ⟨Nat.le_of_ble_eq_true rfl, Nat.le_of_ble_eq_true rfl⟩) rfl rfl rfl rfl (Nat.le_of_ble_eq_true rfl) dX6_reignGoes_227 (fun r22 σ21 h => ?_)
      refine j_if_le C 247 dX6_reignGoes_230 (by decide) (fun c23 => ?_) (fun c23 => ?_)
      · replace h := h.1 c23
        refine j_iconst (v := (0 : Int32)) C dX6_reignGoes_247 (by decide) ?_
        exact j_sub (lv' := []) [] rfl h
      · replace h := h.2 c23
        refine j_aload_n C 0 dX6_reignGoes_233 rfl 0 rfl ?_
        refine j_aload_n C 0 dX6_reignGoes_234 rfl 0 rfl ?_
        refine j_getI C 64 17 rfl rfl rfl in_X6_reignGoes_X6 (by decide) (by decide +kernel) dX6_reignGoes_235 ?_
        refine j_iconst (v := (1 : Int32)) C dX6_reignGoes_238 (by decide) ?_
        refine j_callVI (As := [.int (σ21.1 64 17), .int (1 : Int32)]) (rest := [.int (1 : Int32), .int (σ20.1 64 17), .ref (eA E 64)]) C 64 (c_X6_of h) (cwV 2 C.2.2.2.2.2.1 gX6_reignGoes_X6_of rfl rfl rfl hdX6_of ⟨Nat.le_of_ble_eq_true rfl, Nat.le_of_ble_eq_true rfl⟩) rfl rfl rfl rfl (Nat.le_of_ble_eq_true rfl) dX6_reignGoes_239 (fun r25 σ24 h => ?_)
        refine j_iconst (v := (1 : Int32)) C dX6_reignGoes_242 (by decide) ?_
        refine j_isub C dX6_reignGoes_243 ?_
        refine j_goto C 248 dX6_reignGoes_244 (by decide) ?_
        exact j_sub (lv' := []) [] rfl h) (by
    intro s0 s1 s2 σ h
    refine j_callVV (As := [.int s2, .int s1, .int s0]) (rest := []) C 64 (c_X6_becomesOf h) (cwV 3 C.2.2.2.2.2.1 gX6_reignGoes_X6_becomesOf rfl rfl rfl hdX6_becomesOf ⟨Nat.le_of_ble_eq_true rfl, Nat.le_of_ble_eq_true rfl⟩) rfl rfl rfl rfl (Nat.le_of_ble_eq_true rfl) dX6_reignGoes_248 (fun σ26 h => ?_)
    refine j_goto C 264 dX6_reignGoes_251 (by decide) ?_
    exact j_vret C dX6_reignGoes_264 h)
  refine j_aload_n C 0 dX6_reignGoes_0 rfl 0 rfl ?_
  refine j_aload_n C 0 dX6_reignGoes_1 rfl 0 rfl ?_
  refine j_getR C 66 64 1 rfl rfl rfl in_X6_reignGoes_X6 (by decide) (by decide +kernel) dX6_reignGoes_2 ?_
  refine j_bipush (v := (26 : Int32)) C dX6_reignGoes_5 (by decide) ?_
  refine j_iald C 66 rfl dX6_reignGoes_7 (in_lit rfl) ?_
  refine j_put C 64 17 rfl rfl rfl in_X6_reignGoes_X6 tyX6 tyX6_ok nmX6 (by decide) (by decide +kernel) rfl rfl rfl rfl dX6_reignGoes_8 ?_
  refine j_mem (fun σ27 eσ27 => ?_)
  replace h := h σ27 eσ27
  refine j_aload_n C 0 dX6_reignGoes_11 rfl 0 rfl ?_
  refine j_iload_n C 1 dX6_reignGoes_12 rfl 1 rfl ?_
  refine j_if_ne C 47 dX6_reignGoes_13 (by decide) (fun c28 => ?_) (fun c28 => ?_)
  · replace h := h.1 c28
    exact j_sub (lv' := [(0, .ref (eA E 64))]) [0] rfl h
  · replace h := h.2 c28
    refine j_aload_n C 0 dX6_reignGoes_16 rfl 0 rfl ?_
    refine j_aload_n C 0 dX6_reignGoes_17 rfl 0 rfl ?_
    refine j_getI C 64 17 rfl rfl rfl in_X6_reignGoes_X6 (by decide) (by decide +kernel) dX6_reignGoes_18 ?_
    refine j_iconst (v := (1 : Int32)) C dX6_reignGoes_21 (by decide) ?_
    refine j_callVI (As := [.int (σ27.1 64 17), .int (1 : Int32)]) (rest := [.ref (eA E 64)]) C 64 (c_X6_of h) (cwV 2 C.2.2.2.2.2.1 gX6_reignGoes_X6_of rfl rfl rfl hdX6_of ⟨Nat.le_of_ble_eq_true rfl, Nat.le_of_ble_eq_true rfl⟩) rfl rfl rfl rfl (Nat.le_of_ble_eq_true rfl) dX6_reignGoes_22 (fun r30 σ29 h => ?_)
    refine j_aload_n C 0 dX6_reignGoes_25 rfl 0 rfl ?_
    refine j_getR C 66 64 1 rfl rfl rfl in_X6_reignGoes_X6 (by decide) (by decide +kernel) dX6_reignGoes_26 ?_
    refine j_bipush (v := (31 : Int32)) C dX6_reignGoes_29 (by decide) ?_
    refine j_iald C 66 rfl dX6_reignGoes_31 (in_lit rfl) ?_
    refine j_isub C dX6_reignGoes_32 ?_
    refine j_aload_n C 0 dX6_reignGoes_33 rfl 0 rfl ?_
    refine j_aload_n C 0 dX6_reignGoes_34 rfl 0 rfl ?_
    refine j_getR C 66 64 1 rfl rfl rfl in_X6_reignGoes_X6 (by decide) (by decide +kernel) dX6_reignGoes_35 ?_
    refine j_bipush (v := (25 : Int32)) C dX6_reignGoes_38 (by decide) ?_
    refine j_iald C 66 rfl dX6_reignGoes_40 (in_lit rfl) ?_
    refine j_callVI (As := [.int (σ29.1 66 ((25 : Int32)).toNatClampNeg)]) (rest := [.int (r30 - (σ29.1 66 ((31 : Int32)).toNatClampNeg)), .ref (eA E 64)]) C 64 (c_X6_height h) (cwV 1 C.2.2.2.2.2.1 gX6_reignGoes_X6_height rfl rfl rfl hdX6_height ⟨Nat.le_of_ble_eq_true rfl, Nat.le_of_ble_eq_true rfl⟩) rfl rfl rfl rfl (Nat.le_of_ble_eq_true rfl) dX6_reignGoes_41 (fun r32 σ31 h => ?_)
    refine j_icmp_ge C 51 dX6_reignGoes_44 (by decide) (fun c33 => ?_) (fun c33 => ?_)
    · replace h := h.1 c33
      refine j_iconst (v := (0 : Int32)) C dX6_reignGoes_51 (by decide) ?_
      exact j_sub (lv' := [(0, .ref (eA E 64))]) [0] rfl h
    · replace h := h.2 c33
      exact j_sub (lv' := [(0, .ref (eA E 64))]) [0] rfl h
def wp_X6_reignsGo (a1 : Int32) (σ : Mem) (Q : Mem → Prop) : Prop :=
  ∀ (P2 : Int32 → Mem → Prop),
  (∀ (x2 : Int32) (σ : Mem), ((a1 ≤ x2 → Q σ) ∧ (¬ a1 ≤ x2 → wp_X6_reignGoes (0 : Int32) σ (fun σ2 => ∀ v3 : Int32, v3 = x2 + (1 : Int32) → P2 v3 σ2))) → P2 x2 σ) →
  P2 (0 : Int32) σ
def rmX6_reignsGo : Room := { frames := 3, cells := 0, slots := 0, locals := 67 }
theorem hdX6_reignsGo : yX6_reignsGo.cls = RX6 ∧ yX6_reignsGo.cls ≠ "java/lang/invoke/MethodHandle" ∧ yX6_reignsGo.cls ≠ "java/lang/invoke/VarHandle" ∧ (parseMethodDescriptor yX6_reignsGo.desc).map (fun d => d.parameters.length) = some 1 := by decide +kernel
set_option maxHeartbeats 4000000 in
set_option maxRecDepth 100000 in
theorem c_X6_reignsGo {l : Launch} {E : EE} {a1 : Int32}  {σ : Mem} {Q : Mem → Prop} (h : wp_X6_reignsGo a1 σ Q) : CtV l yX6_reignsGo wsX6_reignsGo rmX6_reignsGo E [.ref (eA E 64), .int a1] σ Q := by
  refine metV (cc := cX6_reignsGo) (nL := 3) (ret := none) (lv := [(0, .ref (eA E 64)), (1, .int a1)]) (by decide) rfl (Nat.le_of_ble_eq_true rfl) rfl ?_
  intro p e s m args below meth c C
  unfold wp_X6_reignsGo at h
  replace h := h (fun (x2 : Int32) (σ : Mem) => J E p l e rmX6_reignsGo s m args below meth c (QV E below args s Q) 3 2 [(0, .ref (eA E 64)), (1, .int a1), (2, .int x2)] [] σ) (by
    intro x2 σ h
    refine j_iload_n C 2 dX6_reignsGo_2 rfl 2 rfl ?_
    refine j_iload_n C 1 dX6_reignsGo_3 rfl 1 rfl ?_
    refine j_icmp_ge C 18 dX6_reignsGo_4 (by decide) (fun c1 => ?_) (fun c1 => ?_)
    · replace h := h.1 c1
      exact j_vret C dX6_reignsGo_18 h
    · replace h := h.2 c1
      refine j_aload_n C 0 dX6_reignsGo_7 rfl 0 rfl ?_
      refine j_iconst (v := (0 : Int32)) C dX6_reignsGo_8 (by decide) ?_
      refine j_callVV (As := [.int (0 : Int32)]) (rest := []) C 64 (c_X6_reignGoes h) (cwV 1 C.2.2.2.2.2.1 gX6_reignsGo_X6_reignGoes rfl rfl rfl hdX6_reignGoes ⟨Nat.le_of_ble_eq_true rfl, Nat.le_of_ble_eq_true rfl⟩) rfl rfl rfl rfl (Nat.le_of_ble_eq_true rfl) dX6_reignsGo_9 (fun σ2 h => ?_)
      obtain ⟨v3, ev3⟩ : ∃ y : Int32, y = x2 + (1 : Int32) := ⟨_, rfl⟩
      replace h := h v3 ev3
      refine j_iinc (v := v3) (lv' := [(2, .int v3), (0, .ref (eA E 64)), (1, .int a1)]) C 2 dX6_reignsGo_12 2 rfl (by rw [ev3]; rfl) (by decide) rfl ?_
      refine j_goto C 2 dX6_reignsGo_15 (by decide) ?_
      exact j_sub (lv' := [(0, .ref (eA E 64)), (1, .int a1), (2, .int v3)]) [1, 2, 0] rfl h)
  refine j_iconst (v := (0 : Int32)) C dX6_reignsGo_0 (by decide) ?_
  refine j_istore_n (lv' := [(2, .int (0 : Int32)), (0, .ref (eA E 64)), (1, .int a1)]) C 2 dX6_reignsGo_1 rfl (by decide) rfl ?_
  exact j_sub (lv' := [(0, .ref (eA E 64)), (1, .int a1), (2, .int (0 : Int32))]) [1, 2, 0] rfl h
def wp_X6_allOf (a1 : Int32) (σ : Mem) (Q : Int32 → Mem → Prop) : Prop :=
  ∀ (P4 : Int32 → Int32 → Mem → Prop),
  (∀ (x2 : Int32) (x3 : Int32) (σ : Mem), (((σ.1 66 ((24 : Int32)).toNatClampNeg) ≤ x3 → Q x2 σ) ∧ (¬ (σ.1 66 ((24 : Int32)).toNatClampNeg) ≤ x3 → wp_X6_of x3 a1 σ (fun r3 σ2 => ∀ v4 : Int32, v4 = (x2 + r3) → ∀ v5 : Int32, v5 = x3 + (1 : Int32) → P4 v4 v5 σ2))) → P4 x2 x3 σ) →
  P4 (0 : Int32) (0 : Int32) σ
theorem in_X6_allOf_X6 : ∀ w ∈ wsX60, w ∈ wsX6_allOf := fun _ h => List.mem_cons_of_mem _ (List.mem_append_right _ h)
def rmX6_allOf : Room := { frames := 1, cells := 0, slots := 0, locals := 22 }
theorem hdX6_allOf : yX6_allOf.cls = RX6 ∧ yX6_allOf.cls ≠ "java/lang/invoke/MethodHandle" ∧ yX6_allOf.cls ≠ "java/lang/invoke/VarHandle" ∧ (parseMethodDescriptor yX6_allOf.desc).map (fun d => d.parameters.length) = some 1 := by decide +kernel
set_option maxHeartbeats 4000000 in
set_option maxRecDepth 100000 in
theorem c_X6_allOf {l : Launch} {E : EE} {a1 : Int32}  {σ : Mem} {Q : Int32 → Mem → Prop} (h : wp_X6_allOf a1 σ Q) : CtI l yX6_allOf wsX6_allOf rmX6_allOf E [.ref (eA E 64), .int a1] σ Q := by
  refine metI (cc := cX6_allOf) (nL := 4) (ret := (some .int)) (lv := [(0, .ref (eA E 64)), (1, .int a1)]) (by decide) rfl (Nat.le_of_ble_eq_true rfl) rfl ?_
  intro p e s m args below meth c C
  unfold wp_X6_allOf at h
  replace h := h (fun (x2 : Int32) (x3 : Int32) (σ : Mem) => J E p l e rmX6_allOf s m args below meth c (QI E below args s Q) 4 4 [(0, .ref (eA E 64)), (1, .int a1), (2, .int x2), (3, .int x3)] [] σ) (by
    intro x2 x3 σ h
    refine j_iload_n C 3 dX6_allOf_4 rfl 3 rfl ?_
    refine j_aload_n C 0 dX6_allOf_5 rfl 0 rfl ?_
    refine j_getR C 66 64 1 rfl rfl rfl in_X6_allOf_X6 (by decide) (by decide +kernel) dX6_allOf_6 ?_
    refine j_bipush (v := (24 : Int32)) C dX6_allOf_9 (by decide) ?_
    refine j_iald C 66 rfl dX6_allOf_11 (in_lit rfl) ?_
    refine j_icmp_ge C 30 dX6_allOf_12 (by decide) (fun c1 => ?_) (fun c1 => ?_)
    · replace h := h.1 c1
      refine j_iload_n C 2 dX6_allOf_30 rfl 2 rfl ?_
      exact j_iret C dX6_allOf_31 h
    · replace h := h.2 c1
      refine j_iload_n C 2 dX6_allOf_15 rfl 2 rfl ?_
      refine j_aload_n C 0 dX6_allOf_16 rfl 0 rfl ?_
      refine j_iload_n C 3 dX6_allOf_17 rfl 3 rfl ?_
      refine j_iload_n C 1 dX6_allOf_18 rfl 1 rfl ?_
      refine j_callVI (As := [.int x3, .int a1]) (rest := [.int x2]) C 64 (c_X6_of h) (cwV 2 C.2.2.2.2.2.1 gX6_allOf_X6_of rfl rfl rfl hdX6_of ⟨Nat.le_of_ble_eq_true rfl, Nat.le_of_ble_eq_true rfl⟩) rfl rfl rfl rfl (Nat.le_of_ble_eq_true rfl) dX6_allOf_19 (fun r3 σ2 h => ?_)
      refine j_iadd C dX6_allOf_22 ?_
      refine j_topi (fun v4 ev4 => ?_)
      replace h := h v4 ev4
      refine j_istore_n (lv' := [(2, .int v4), (0, .ref (eA E 64)), (1, .int a1), (3, .int x3)]) C 2 dX6_allOf_23 rfl (by decide) rfl ?_
      obtain ⟨v5, ev5⟩ : ∃ y : Int32, y = x3 + (1 : Int32) := ⟨_, rfl⟩
      replace h := h v5 ev5
      refine j_iinc (v := v5) (lv' := [(3, .int v5), (2, .int v4), (0, .ref (eA E 64)), (1, .int a1)]) C 3 dX6_allOf_24 3 rfl (by rw [ev5]; rfl) (by decide) rfl ?_
      refine j_goto C 4 dX6_allOf_27 (by decide) ?_
      exact j_sub (lv' := [(0, .ref (eA E 64)), (1, .int a1), (2, .int v4), (3, .int v5)]) [2, 3, 1, 0] rfl h)
  refine j_iconst (v := (0 : Int32)) C dX6_allOf_0 (by decide) ?_
  refine j_istore_n (lv' := [(2, .int (0 : Int32)), (0, .ref (eA E 64)), (1, .int a1)]) C 2 dX6_allOf_1 rfl (by decide) rfl ?_
  refine j_iconst (v := (0 : Int32)) C dX6_allOf_2 (by decide) ?_
  refine j_istore_n (lv' := [(3, .int (0 : Int32)), (2, .int (0 : Int32)), (0, .ref (eA E 64)), (1, .int a1)]) C 3 dX6_allOf_3 rfl (by decide) rfl ?_
  exact j_sub (lv' := [(0, .ref (eA E 64)), (1, .int a1), (2, .int (0 : Int32)), (3, .int (0 : Int32))]) [2, 3, 1, 0] rfl h
def wp_X6_placeOf (a1 : Int32) (σ : Mem) (Q : Int32 → Mem → Prop) : Prop :=
  ∀ (P5 : Int32 → Int32 → Mem → Prop) (P34 : Int32 → Int32 → Mem → Prop),
  (∀ (x2 : Int32) (x3 : Int32) (σ : Mem), (((σ.1 66 ((24 : Int32)).toNatClampNeg) ≤ x3 → Q x2 σ) ∧ (¬ (σ.1 66 ((24 : Int32)).toNatClampNeg) ≤ x3 → vp_in ((25 : Int32) + x3) 49 ∧ ((¬ (σ.1 66 (((25 : Int32) + x3)).toNatClampNeg) = a1 → P34 x3 x2 σ) ∧ ((σ.1 66 (((25 : Int32) + x3)).toNatClampNeg) = a1 → P34 x3 x3 σ)))) → P5 x2 x3 σ) →
  (∀ (x3 : Int32) (s0 : Int32) (σ : Mem), (∀ v3 : Int32, v3 = x3 + (1 : Int32) → P5 s0 v3 σ) → P34 x3 s0 σ) →
  P5 (-4 : Int32) (0 : Int32) σ
theorem in_X6_placeOf_X6 : ∀ w ∈ wsX60, w ∈ wsX6_placeOf := fun _ h => List.mem_cons_of_mem _ (List.mem_append_right _ h)
def rmX6_placeOf : Room := { frames := 0, cells := 0, slots := 0, locals := 0 }
theorem hdX6_placeOf : yX6_placeOf.cls = RX6 ∧ yX6_placeOf.cls ≠ "java/lang/invoke/MethodHandle" ∧ yX6_placeOf.cls ≠ "java/lang/invoke/VarHandle" ∧ (parseMethodDescriptor yX6_placeOf.desc).map (fun d => d.parameters.length) = some 1 := by decide +kernel
set_option maxHeartbeats 4000000 in
set_option maxRecDepth 100000 in
theorem c_X6_placeOf {l : Launch} {E : EE} {a1 : Int32}  {σ : Mem} {Q : Int32 → Mem → Prop} (h : wp_X6_placeOf a1 σ Q) : CtI l yX6_placeOf wsX6_placeOf rmX6_placeOf E [.ref (eA E 64), .int a1] σ Q := by
  refine metI (cc := cX6_placeOf) (nL := 4) (ret := (some .int)) (lv := [(0, .ref (eA E 64)), (1, .int a1)]) (by decide) rfl (Nat.le_of_ble_eq_true rfl) rfl ?_
  intro p e s m args below meth c C
  unfold wp_X6_placeOf at h
  replace h := h (fun (x2 : Int32) (x3 : Int32) (σ : Mem) => J E p l e rmX6_placeOf s m args below meth c (QI E below args s Q) 4 5 [(0, .ref (eA E 64)), (1, .int a1), (2, .int x2), (3, .int x3)] [] σ) (fun (x3 : Int32) (s0 : Int32) (σ : Mem) => J E p l e rmX6_placeOf s m args below meth c (QI E below args s Q) 4 34 [(0, .ref (eA E 64)), (1, .int a1), (3, .int x3)] [.int s0] σ) (by
    intro x2 x3 σ h
    refine j_iload_n C 3 dX6_placeOf_5 rfl 3 rfl ?_
    refine j_aload_n C 0 dX6_placeOf_6 rfl 0 rfl ?_
    refine j_getR C 66 64 1 rfl rfl rfl in_X6_placeOf_X6 (by decide) (by decide +kernel) dX6_placeOf_7 ?_
    refine j_bipush (v := (24 : Int32)) C dX6_placeOf_10 (by decide) ?_
    refine j_iald C 66 rfl dX6_placeOf_12 (in_lit rfl) ?_
    refine j_icmp_ge C 41 dX6_placeOf_13 (by decide) (fun c1 => ?_) (fun c1 => ?_)
    · replace h := h.1 c1
      refine j_iload_n C 2 dX6_placeOf_41 rfl 2 rfl ?_
      exact j_iret C dX6_placeOf_42 h
    · replace h := h.2 c1
      refine j_aload_n C 0 dX6_placeOf_16 rfl 0 rfl ?_
      refine j_getR C 66 64 1 rfl rfl rfl in_X6_placeOf_X6 (by decide) (by decide +kernel) dX6_placeOf_17 ?_
      refine j_bipush (v := (25 : Int32)) C dX6_placeOf_20 (by decide) ?_
      refine j_iload_n C 3 dX6_placeOf_22 rfl 3 rfl ?_
      refine j_iadd C dX6_placeOf_23 ?_
      refine j_iald C 66 rfl dX6_placeOf_24 h.1 ?_
      replace h := h.2
      refine j_iload_n C 1 dX6_placeOf_25 rfl 1 rfl ?_
      refine j_icmp_ne C 33 dX6_placeOf_26 (by decide) (fun c2 => ?_) (fun c2 => ?_)
      · replace h := h.1 c2
        refine j_iload_n C 2 dX6_placeOf_33 rfl 2 rfl ?_
        exact j_sub (lv' := [(0, .ref (eA E 64)), (1, .int a1), (3, .int x3)]) [0, 1, 3] rfl h
      · replace h := h.2 c2
        refine j_iload_n C 3 dX6_placeOf_29 rfl 3 rfl ?_
        refine j_goto C 34 dX6_placeOf_30 (by decide) ?_
        exact j_sub (lv' := [(0, .ref (eA E 64)), (1, .int a1), (3, .int x3)]) [0, 1, 3] rfl h) (by
    intro x3 s0 σ h
    refine j_istore_n (lv' := [(2, .int s0), (0, .ref (eA E 64)), (1, .int a1), (3, .int x3)]) C 2 dX6_placeOf_34 rfl (by decide) rfl ?_
    obtain ⟨v3, ev3⟩ : ∃ y : Int32, y = x3 + (1 : Int32) := ⟨_, rfl⟩
    replace h := h v3 ev3
    refine j_iinc (v := v3) (lv' := [(3, .int v3), (2, .int s0), (0, .ref (eA E 64)), (1, .int a1)]) C 3 dX6_placeOf_35 3 rfl (by rw [ev3]; rfl) (by decide) rfl ?_
    refine j_goto C 5 dX6_placeOf_38 (by decide) ?_
    exact j_sub (lv' := [(0, .ref (eA E 64)), (1, .int a1), (2, .int s0), (3, .int v3)]) [2, 3, 1, 0] rfl h)
  refine j_bipush (v := (-4 : Int32)) C dX6_placeOf_0 (by decide) ?_
  refine j_istore_n (lv' := [(2, .int (-4 : Int32)), (0, .ref (eA E 64)), (1, .int a1)]) C 2 dX6_placeOf_2 rfl (by decide) rfl ?_
  refine j_iconst (v := (0 : Int32)) C dX6_placeOf_3 (by decide) ?_
  refine j_istore_n (lv' := [(3, .int (0 : Int32)), (2, .int (-4 : Int32)), (0, .ref (eA E 64)), (1, .int a1)]) C 3 dX6_placeOf_4 rfl (by decide) rfl ?_
  exact j_sub (lv' := [(0, .ref (eA E 64)), (1, .int a1), (2, .int (-4 : Int32)), (3, .int (0 : Int32))]) [2, 3, 1, 0] rfl h
def wp_X6_rule (a1 : Int32) (σ : Mem) (Q : Int32 → Mem → Prop) : Prop :=
  (a1 = (0 : Int32) → Q (σ.1 65 ((24 : Int32)).toNatClampNeg) σ) ∧ (a1 = (1 : Int32) → Q (σ.1 65 ((33 : Int32)).toNatClampNeg) σ) ∧ (a1 = (2 : Int32) → Q (σ.1 65 ((32 : Int32)).toNatClampNeg) σ) ∧ (a1 = (3 : Int32) → Q (σ.1 65 ((31 : Int32)).toNatClampNeg) σ) ∧ (a1 = (4 : Int32) → Q (σ.1 65 ((34 : Int32)).toNatClampNeg) σ) ∧ (a1 = (5 : Int32) → Q (σ.1 65 ((35 : Int32)).toNatClampNeg) σ) ∧ (¬ a1 = (0 : Int32) → ¬ a1 = (1 : Int32) → ¬ a1 = (2 : Int32) → ¬ a1 = (3 : Int32) → ¬ a1 = (4 : Int32) → ¬ a1 = (5 : Int32) → Q (-1 : Int32) σ)
theorem in_X6_rule_X6 : ∀ w ∈ wsX60, w ∈ wsX6_rule := fun _ h => List.mem_cons_of_mem _ (List.mem_append_right _ h)
def rmX6_rule : Room := { frames := 0, cells := 0, slots := 0, locals := 0 }
theorem hdX6_rule : yX6_rule.cls = RX6 ∧ yX6_rule.cls ≠ "java/lang/invoke/MethodHandle" ∧ yX6_rule.cls ≠ "java/lang/invoke/VarHandle" ∧ (parseMethodDescriptor yX6_rule.desc).map (fun d => d.parameters.length) = some 1 := by decide +kernel
set_option maxHeartbeats 4000000 in
set_option maxRecDepth 100000 in
theorem c_X6_rule {l : Launch} {E : EE} {a1 : Int32}  {σ : Mem} {Q : Int32 → Mem → Prop} (h : wp_X6_rule a1 σ Q) : CtI l yX6_rule wsX6_rule rmX6_rule E [.ref (eA E 64), .int a1] σ Q := by
  refine metI (cc := cX6_rule) (nL := 2) (ret := (some .int)) (lv := [(0, .ref (eA E 64)), (1, .int a1)]) (by decide) rfl (Nat.le_of_ble_eq_true rfl) rfl ?_
  intro p e s m args below meth c C
  unfold wp_X6_rule at h
  refine j_iload_n C 1 dX6_rule_0 rfl 1 rfl ?_
  by_cases c1 : a1 = (0 : Int32)
  · replace h := h.1 c1
    refine j_tabIn (off := 39) C 40 dX6_rule_1 (0 : Int32) c1 (by decide) (by decide) (by decide) (by decide) ?_
    refine j_aload_n C 0 dX6_rule_40 rfl 0 rfl ?_
    refine j_getR C 65 64 0 rfl rfl rfl in_X6_rule_X6 (by decide) (by decide +kernel) dX6_rule_41 ?_
    refine j_bipush (v := (24 : Int32)) C dX6_rule_44 (by decide) ?_
    refine j_iald C 65 rfl dX6_rule_46 (in_lit rfl) ?_
    exact j_iret C dX6_rule_47 h
  by_cases c2 : a1 = (1 : Int32)
  · replace h := h.2.1 c2
    refine j_tabIn (off := 47) C 48 dX6_rule_1 (1 : Int32) c2 (by decide) (by decide) (by decide) (by decide) ?_
    refine j_aload_n C 0 dX6_rule_48 rfl 0 rfl ?_
    refine j_getR C 65 64 0 rfl rfl rfl in_X6_rule_X6 (by decide) (by decide +kernel) dX6_rule_49 ?_
    refine j_bipush (v := (33 : Int32)) C dX6_rule_52 (by decide) ?_
    refine j_iald C 65 rfl dX6_rule_54 (in_lit rfl) ?_
    exact j_iret C dX6_rule_55 h
  by_cases c3 : a1 = (2 : Int32)
  · replace h := h.2.2.1 c3
    refine j_tabIn (off := 55) C 56 dX6_rule_1 (2 : Int32) c3 (by decide) (by decide) (by decide) (by decide) ?_
    refine j_aload_n C 0 dX6_rule_56 rfl 0 rfl ?_
    refine j_getR C 65 64 0 rfl rfl rfl in_X6_rule_X6 (by decide) (by decide +kernel) dX6_rule_57 ?_
    refine j_bipush (v := (32 : Int32)) C dX6_rule_60 (by decide) ?_
    refine j_iald C 65 rfl dX6_rule_62 (in_lit rfl) ?_
    exact j_iret C dX6_rule_63 h
  by_cases c4 : a1 = (3 : Int32)
  · replace h := h.2.2.2.1 c4
    refine j_tabIn (off := 63) C 64 dX6_rule_1 (3 : Int32) c4 (by decide) (by decide) (by decide) (by decide) ?_
    refine j_aload_n C 0 dX6_rule_64 rfl 0 rfl ?_
    refine j_getR C 65 64 0 rfl rfl rfl in_X6_rule_X6 (by decide) (by decide +kernel) dX6_rule_65 ?_
    refine j_bipush (v := (31 : Int32)) C dX6_rule_68 (by decide) ?_
    refine j_iald C 65 rfl dX6_rule_70 (in_lit rfl) ?_
    exact j_iret C dX6_rule_71 h
  by_cases c5 : a1 = (4 : Int32)
  · replace h := h.2.2.2.2.1 c5
    refine j_tabIn (off := 71) C 72 dX6_rule_1 (4 : Int32) c5 (by decide) (by decide) (by decide) (by decide) ?_
    refine j_aload_n C 0 dX6_rule_72 rfl 0 rfl ?_
    refine j_getR C 65 64 0 rfl rfl rfl in_X6_rule_X6 (by decide) (by decide +kernel) dX6_rule_73 ?_
    refine j_bipush (v := (34 : Int32)) C dX6_rule_76 (by decide) ?_
    refine j_iald C 65 rfl dX6_rule_78 (in_lit rfl) ?_
    exact j_iret C dX6_rule_79 h
  by_cases c6 : a1 = (5 : Int32)
  · replace h := h.2.2.2.2.2.1 c6
    refine j_tabIn (off := 79) C 80 dX6_rule_1 (5 : Int32) c6 (by decide) (by decide) (by decide) (by decide) ?_
    refine j_aload_n C 0 dX6_rule_80 rfl 0 rfl ?_
    refine j_getR C 65 64 0 rfl rfl rfl in_X6_rule_X6 (by decide) (by decide +kernel) dX6_rule_81 ?_
    refine j_bipush (v := (35 : Int32)) C dX6_rule_84 (by decide) ?_
    refine j_iald C 65 rfl dX6_rule_86 (in_lit rfl) ?_
    exact j_iret C dX6_rule_87 h
  replace h := h.2.2.2.2.2.2 c1 c2 c3 c4 c5 c6
  refine j_tabOut C 88 dX6_rule_1 (tab_out (lo := 0) (hi := 5) (fun v h1 h2 => by rcases (show v = 0 ∨ v = 1 ∨ v = 2 ∨ v = 3 ∨ v = 4 ∨ v = 5 by omega) with rfl | rfl | rfl | rfl | rfl | rfl <;> assumption)) (by decide) ?_
  refine j_iconst (v := (-1 : Int32)) C dX6_rule_88 (by decide) ?_
  exact j_iret C dX6_rule_89 h
def wp_X6_heir (a1 : Int32) (a2 : Int32) (σ : Mem) (Q : Int32 → Mem → Prop) : Prop :=
  wp_X6_isHeir a1 σ (fun r2 σ1 => (r2 = 0 → Q (-1 : Int32) σ1) ∧ (¬ r2 = 0 → wp_X6_in ((a2).toInt64) (0 : Int64) (5 : Int64) σ1 (fun r5 σ4 => (¬ r5 = 0 → wp_X6_starts σ4 (fun σ7 => ((4 : Int32) ≤ a2 → (¬ a2 = (4 : Int32) → wp_X6_placeOf a1 σ7 (fun r11 σ10 => Q r11 σ10)) ∧ (a2 = (4 : Int32) → wp_X6_height a1 σ7 (fun r13 σ12 => Q r13 σ12))) ∧ (¬ (4 : Int32) ≤ a2 → wp_X6_of a1 a2 σ7 (fun r15 σ14 => Q r15 σ14)))) ∧ (r5 = 0 → Q (-1 : Int32) σ4))))
def rmX6_heir : Room := { frames := 2, cells := 0, slots := 0, locals := 46 }
theorem hdX6_heir : yX6_heir.cls = RX6 ∧ yX6_heir.cls ≠ "java/lang/invoke/MethodHandle" ∧ yX6_heir.cls ≠ "java/lang/invoke/VarHandle" ∧ (parseMethodDescriptor yX6_heir.desc).map (fun d => d.parameters.length) = some 2 := by decide +kernel
set_option maxHeartbeats 4000000 in
set_option maxRecDepth 100000 in
theorem c_X6_heir {l : Launch} {E : EE} {a1 : Int32} {a2 : Int32}  {σ : Mem} {Q : Int32 → Mem → Prop} (h : wp_X6_heir a1 a2 σ Q) : CtI l yX6_heir wsX6_heir rmX6_heir E [.ref (eA E 64), .int a1, .int a2] σ Q := by
  refine metI (cc := cX6_heir) (nL := 3) (ret := (some .int)) (lv := [(0, .ref (eA E 64)), (1, .int a1), (2, .int a2)]) (by decide) rfl (Nat.le_of_ble_eq_true rfl) rfl ?_
  intro p e s m args below meth c C
  unfold wp_X6_heir at h
  refine j_aload_n C 0 dX6_heir_0 rfl 0 rfl ?_
  refine j_iload_n C 1 dX6_heir_1 rfl 1 rfl ?_
  refine j_callVI (As := [.int a1]) (rest := []) C 64 (c_X6_isHeir h) (cwV 1 C.2.2.2.2.2.1 gX6_heir_X6_isHeir rfl rfl rfl hdX6_isHeir ⟨Nat.le_of_ble_eq_true rfl, Nat.le_of_ble_eq_true rfl⟩) rfl rfl rfl rfl (Nat.le_of_ble_eq_true rfl) dX6_heir_2 (fun r2 σ1 h => ?_)
  refine j_if_eq C 20 dX6_heir_5 (by decide) (fun c3 => ?_) (fun c3 => ?_)
  · replace h := h.1 c3
    refine j_iconst (v := (-1 : Int32)) C dX6_heir_20 (by decide) ?_
    exact j_iret C dX6_heir_21 h
  · replace h := h.2 c3
    refine j_iload_n C 2 dX6_heir_8 rfl 2 rfl ?_
    refine j_i2l C dX6_heir_9 rfl ?_
    refine j_lconst (v := (0 : Int64)) C dX6_heir_10 (by decide) ?_
    refine j_ldc2 C (5 : Int64) dX6_heir_11 (by decide +kernel) ?_
    refine j_callSI (As := [.long (a2).toInt64, .long (0 : Int64), .long (5 : Int64)]) (rest := []) C (c_X6_in h) (va_cwS 3 C.2.2.2.2.2.1 gX6_heir_X6_in rfl rfl rfl hdX6_in.2 ⟨Nat.le_of_ble_eq_true rfl, Nat.le_of_ble_eq_true rfl⟩) rfl rfl (Nat.le_of_ble_eq_true rfl) dX6_heir_14 (fun r5 σ4 h => ?_)
    refine j_if_ne C 22 dX6_heir_17 (by decide) (fun c6 => ?_) (fun c6 => ?_)
    · replace h := h.1 c6
      refine j_aload_n C 0 dX6_heir_22 rfl 0 rfl ?_
      refine j_callVV (As := []) (rest := []) C 64 (c_X6_starts h) (cwV 0 C.2.2.2.2.2.1 gX6_heir_X6_starts rfl rfl rfl hdX6_starts ⟨Nat.le_of_ble_eq_true rfl, Nat.le_of_ble_eq_true rfl⟩) rfl rfl rfl rfl (Nat.le_of_ble_eq_true rfl) dX6_heir_23 (fun σ7 h => ?_)
      refine j_iload_n C 2 dX6_heir_26 rfl 2 rfl ?_
      refine j_iconst (v := (4 : Int32)) C dX6_heir_27 (by decide) ?_
      refine j_icmp_ge C 40 dX6_heir_28 (by decide) (fun c8 => ?_) (fun c8 => ?_)
      · replace h := h.1 c8
        refine j_iload_n C 2 dX6_heir_40 rfl 2 rfl ?_
        refine j_iconst (v := (4 : Int32)) C dX6_heir_41 (by decide) ?_
        refine j_icmp_ne C 53 dX6_heir_42 (by decide) (fun c9 => ?_) (fun c9 => ?_)
        · replace h := h.1 c9
          refine j_aload_n C 0 dX6_heir_53 rfl 0 rfl ?_
          refine j_iload_n C 1 dX6_heir_54 rfl 1 rfl ?_
          refine j_callVI (As := [.int a1]) (rest := []) C 64 (c_X6_placeOf h) (cwV 1 C.2.2.2.2.2.1 gX6_heir_X6_placeOf rfl rfl rfl hdX6_placeOf ⟨Nat.le_of_ble_eq_true rfl, Nat.le_of_ble_eq_true rfl⟩) rfl rfl rfl rfl (Nat.le_of_ble_eq_true rfl) dX6_heir_55 (fun r11 σ10 h => ?_)
          exact j_iret C dX6_heir_58 h
        · replace h := h.2 c9
          refine j_aload_n C 0 dX6_heir_45 rfl 0 rfl ?_
          refine j_iload_n C 1 dX6_heir_46 rfl 1 rfl ?_
          refine j_callVI (As := [.int a1]) (rest := []) C 64 (c_X6_height h) (cwV 1 C.2.2.2.2.2.1 gX6_heir_X6_height rfl rfl rfl hdX6_height ⟨Nat.le_of_ble_eq_true rfl, Nat.le_of_ble_eq_true rfl⟩) rfl rfl rfl rfl (Nat.le_of_ble_eq_true rfl) dX6_heir_47 (fun r13 σ12 h => ?_)
          refine j_goto C 58 dX6_heir_50 (by decide) ?_
          exact j_iret C dX6_heir_58 h
      · replace h := h.2 c8
        refine j_aload_n C 0 dX6_heir_31 rfl 0 rfl ?_
        refine j_iload_n C 1 dX6_heir_32 rfl 1 rfl ?_
        refine j_iload_n C 2 dX6_heir_33 rfl 2 rfl ?_
        refine j_callVI (As := [.int a1, .int a2]) (rest := []) C 64 (c_X6_of h) (cwV 2 C.2.2.2.2.2.1 gX6_heir_X6_of rfl rfl rfl hdX6_of ⟨Nat.le_of_ble_eq_true rfl, Nat.le_of_ble_eq_true rfl⟩) rfl rfl rfl rfl (Nat.le_of_ble_eq_true rfl) dX6_heir_34 (fun r15 σ14 h => ?_)
        refine j_goto C 58 dX6_heir_37 (by decide) ?_
        exact j_iret C dX6_heir_58 h
    · replace h := h.2 c6
      refine j_iconst (v := (-1 : Int32)) C dX6_heir_20 (by decide) ?_
      exact j_iret C dX6_heir_21 h
def wp_X6_line (a1 : Int32) (σ : Mem) (Q : Int32 → Mem → Prop) : Prop :=
  wp_X6_isHeir a1 σ (fun r2 σ1 => (r2 = 0 → Q (-1 : Int32) σ1) ∧ (¬ r2 = 0 → vp_in ((25 : Int32) + a1) 147 ∧ (Q (σ1.1 65 (((25 : Int32) + a1)).toNatClampNeg) σ1)))
theorem in_X6_line_X6 : ∀ w ∈ wsX60, w ∈ wsX6_line := fun _ h => List.mem_cons_of_mem _ (List.mem_append_right _ h)
def rmX6_line : Room := { frames := 2, cells := 0, slots := 0, locals := 46 }
theorem hdX6_line : yX6_line.cls = RX6 ∧ yX6_line.cls ≠ "java/lang/invoke/MethodHandle" ∧ yX6_line.cls ≠ "java/lang/invoke/VarHandle" ∧ (parseMethodDescriptor yX6_line.desc).map (fun d => d.parameters.length) = some 1 := by decide +kernel
set_option maxHeartbeats 4000000 in
set_option maxRecDepth 100000 in
theorem c_X6_line {l : Launch} {E : EE} {a1 : Int32}  {σ : Mem} {Q : Int32 → Mem → Prop} (h : wp_X6_line a1 σ Q) : CtI l yX6_line wsX6_line rmX6_line E [.ref (eA E 64), .int a1] σ Q := by
  refine metI (cc := cX6_line) (nL := 2) (ret := (some .int)) (lv := [(0, .ref (eA E 64)), (1, .int a1)]) (by decide) rfl (Nat.le_of_ble_eq_true rfl) rfl ?_
  intro p e s m args below meth c C
  unfold wp_X6_line at h
  refine j_aload_n C 0 dX6_line_0 rfl 0 rfl ?_
  refine j_iload_n C 1 dX6_line_1 rfl 1 rfl ?_
  refine j_callVI (As := [.int a1]) (rest := []) C 64 (c_X6_isHeir h) (cwV 1 C.2.2.2.2.2.1 gX6_line_X6_isHeir rfl rfl rfl hdX6_isHeir ⟨Nat.le_of_ble_eq_true rfl, Nat.le_of_ble_eq_true rfl⟩) rfl rfl rfl rfl (Nat.le_of_ble_eq_true rfl) dX6_line_2 (fun r2 σ1 h => ?_)
  refine j_if_eq C 20 dX6_line_5 (by decide) (fun c3 => ?_) (fun c3 => ?_)
  · replace h := h.1 c3
    refine j_iconst (v := (-1 : Int32)) C dX6_line_20 (by decide) ?_
    exact j_iret C dX6_line_21 h
  · replace h := h.2 c3
    refine j_aload_n C 0 dX6_line_8 rfl 0 rfl ?_
    refine j_getR C 65 64 0 rfl rfl rfl in_X6_line_X6 (by decide) (by decide +kernel) dX6_line_9 ?_
    refine j_bipush (v := (25 : Int32)) C dX6_line_12 (by decide) ?_
    refine j_iload_n C 1 dX6_line_14 rfl 1 rfl ?_
    refine j_iadd C dX6_line_15 ?_
    refine j_iald C 65 rfl dX6_line_16 h.1 ?_
    replace h := h.2
    refine j_goto C 21 dX6_line_17 (by decide) ?_
    exact j_iret C dX6_line_21 h
def wp_X6_becomes (a1 : Int32) (a2 : Int32) (σ : Mem) (Q : Int32 → Mem → Prop) : Prop :=
  vp_in a1 147 ∧ (∀ v1 : Int32, v1 = (σ.1 65 (a1).toNatClampNeg) → vp_in a1 147 ∧ (∀ σ2 : Mem, σ2 = st1 σ 65 (a1).toNatClampNeg a2 → Q v1 σ2))
theorem in_X6_becomes_X6 : ∀ w ∈ wsX60, w ∈ wsX6_becomes := fun _ h => List.mem_cons_of_mem _ (List.mem_append_right _ h)
def rmX6_becomes : Room := { frames := 0, cells := 0, slots := 0, locals := 0 }
theorem hdX6_becomes : yX6_becomes.cls = RX6 ∧ yX6_becomes.cls ≠ "java/lang/invoke/MethodHandle" ∧ yX6_becomes.cls ≠ "java/lang/invoke/VarHandle" ∧ (parseMethodDescriptor yX6_becomes.desc).map (fun d => d.parameters.length) = some 2 := by decide +kernel
set_option maxHeartbeats 4000000 in
set_option maxRecDepth 100000 in
theorem c_X6_becomes {l : Launch} {E : EE} {a1 : Int32} {a2 : Int32}  {σ : Mem} {Q : Int32 → Mem → Prop} (h : wp_X6_becomes a1 a2 σ Q) : CtI l yX6_becomes wsX6_becomes rmX6_becomes E [.ref (eA E 64), .int a1, .int a2] σ Q := by
  refine metI (cc := cX6_becomes) (nL := 4) (ret := (some .int)) (lv := [(0, .ref (eA E 64)), (1, .int a1), (2, .int a2)]) (by decide) rfl (Nat.le_of_ble_eq_true rfl) rfl ?_
  intro p e s m args below meth c C
  unfold wp_X6_becomes at h
  refine j_aload_n C 0 dX6_becomes_0 rfl 0 rfl ?_
  refine j_getR C 65 64 0 rfl rfl rfl in_X6_becomes_X6 (by decide) (by decide +kernel) dX6_becomes_1 ?_
  refine j_iload_n C 1 dX6_becomes_4 rfl 1 rfl ?_
  refine j_iald C 65 rfl dX6_becomes_5 h.1 ?_
  replace h := h.2
  refine j_topi (fun v1 ev1 => ?_)
  replace h := h v1 ev1
  refine j_istore_n (lv' := [(3, .int v1), (0, .ref (eA E 64)), (1, .int a1), (2, .int a2)]) C 3 dX6_becomes_6 rfl (by decide) rfl ?_
  refine j_aload_n C 0 dX6_becomes_7 rfl 1 rfl ?_
  refine j_getR C 65 64 0 rfl rfl rfl in_X6_becomes_X6 (by decide) (by decide +kernel) dX6_becomes_8 ?_
  refine j_iload_n C 1 dX6_becomes_11 rfl 2 rfl ?_
  refine j_iload_n C 2 dX6_becomes_12 rfl 3 rfl ?_
  refine j_iast C 65 rfl dX6_becomes_13 h.1 ?_
  replace h := h.2
  refine j_mem (fun σ2 eσ2 => ?_)
  replace h := h σ2 eσ2
  refine j_iload_n C 3 dX6_becomes_14 rfl 0 rfl ?_
  exact j_iret C dX6_becomes_15 h
def wp_X6_canBe (a0 : Int32) (a1 : Int32) (σ : Mem) (Q : Int32 → Mem → Prop) : Prop :=
  (a0 = (0 : Int32) → wp_X6_in ((a1).toInt64) (0 : Int64) (3 : Int64) σ (fun r3 σ2 => (r3 = 0 ∨ r3 = 1) ∧ Q r3 σ2)) ∧ (a0 = (1 : Int32) → wp_X6_in ((a1).toInt64) (0 : Int64) (20 : Int64) σ (fun r6 σ5 => (r6 = 0 ∨ r6 = 1) ∧ Q r6 σ5)) ∧ (a0 = (2 : Int32) → wp_X6_in ((a1).toInt64) (1 : Int64) (20 : Int64) σ (fun r9 σ8 => (r9 = 0 ∨ r9 = 1) ∧ Q r9 σ8)) ∧ (a0 = (3 : Int32) → wp_X6_in ((a1).toInt64) (1 : Int64) (30 : Int64) σ (fun r12 σ11 => (r12 = 0 ∨ r12 = 1) ∧ Q r12 σ11)) ∧ (¬ a0 = (0 : Int32) → ¬ a0 = (1 : Int32) → ¬ a0 = (2 : Int32) → ¬ a0 = (3 : Int32) → Q (0 : Int32) σ)
def rmX6_canBe : Room := { frames := 1, cells := 0, slots := 0, locals := 25 }
theorem hdX6_canBe : yX6_canBe.cls = RX6 ∧ yX6_canBe.cls ≠ "java/lang/invoke/MethodHandle" ∧ yX6_canBe.cls ≠ "java/lang/invoke/VarHandle" ∧ (parseMethodDescriptor yX6_canBe.desc).map (fun d => d.parameters.length) = some 2 := by decide +kernel
set_option maxHeartbeats 4000000 in
set_option maxRecDepth 100000 in
theorem c_X6_canBe {l : Launch} {E : EE} {a0 : Int32} {a1 : Int32}  {σ : Mem} {Q : Int32 → Mem → Prop} (h : wp_X6_canBe a0 a1 σ Q) : CtI l yX6_canBe wsX6_canBe rmX6_canBe E [.int a0, .int a1] σ Q := by
  refine metI (cc := cX6_canBe) (nL := 2) (ret := (some .boolean)) (lv := [(0, .int a0), (1, .int a1)]) (by decide) rfl (Nat.le_of_ble_eq_true rfl) rfl ?_
  intro p e s m args below meth c C
  unfold wp_X6_canBe at h
  refine j_iload_n C 0 dX6_canBe_0 rfl 0 rfl ?_
  by_cases c1 : a0 = (0 : Int32)
  · replace h := h.1 c1
    refine j_tabIn (off := 31) C 32 dX6_canBe_1 (0 : Int32) c1 (by decide) (by decide) (by decide) (by decide) ?_
    refine j_iload_n C 1 dX6_canBe_32 rfl 1 rfl ?_
    refine j_i2l C dX6_canBe_33 rfl ?_
    refine j_lconst (v := (0 : Int64)) C dX6_canBe_34 (by decide) ?_
    refine j_ldc2 C (3 : Int64) dX6_canBe_35 (by decide +kernel) ?_
    refine j_callSI (As := [.long (a1).toInt64, .long (0 : Int64), .long (3 : Int64)]) (rest := []) C (c_X6_in h) (va_cwS 3 C.2.2.2.2.2.1 gX6_canBe_X6_in rfl rfl rfl hdX6_in.2 ⟨Nat.le_of_ble_eq_true rfl, Nat.le_of_ble_eq_true rfl⟩) rfl rfl (Nat.le_of_ble_eq_true rfl) dX6_canBe_38 (fun r3 σ2 h => ?_)
    exact j_zret C dX6_canBe_41 h.1 h.2
  by_cases c4 : a0 = (1 : Int32)
  · replace h := h.2.1 c4
    refine j_tabIn (off := 41) C 42 dX6_canBe_1 (1 : Int32) c4 (by decide) (by decide) (by decide) (by decide) ?_
    refine j_iload_n C 1 dX6_canBe_42 rfl 1 rfl ?_
    refine j_i2l C dX6_canBe_43 rfl ?_
    refine j_lconst (v := (0 : Int64)) C dX6_canBe_44 (by decide) ?_
    refine j_ldc2 C (20 : Int64) dX6_canBe_45 (by decide +kernel) ?_
    refine j_callSI (As := [.long (a1).toInt64, .long (0 : Int64), .long (20 : Int64)]) (rest := []) C (c_X6_in h) (va_cwS 3 C.2.2.2.2.2.1 gX6_canBe_X6_in rfl rfl rfl hdX6_in.2 ⟨Nat.le_of_ble_eq_true rfl, Nat.le_of_ble_eq_true rfl⟩) rfl rfl (Nat.le_of_ble_eq_true rfl) dX6_canBe_48 (fun r6 σ5 h => ?_)
    exact j_zret C dX6_canBe_51 h.1 h.2
  by_cases c7 : a0 = (2 : Int32)
  · replace h := h.2.2.1 c7
    refine j_tabIn (off := 51) C 52 dX6_canBe_1 (2 : Int32) c7 (by decide) (by decide) (by decide) (by decide) ?_
    refine j_iload_n C 1 dX6_canBe_52 rfl 1 rfl ?_
    refine j_i2l C dX6_canBe_53 rfl ?_
    refine j_lconst (v := (1 : Int64)) C dX6_canBe_54 (by decide) ?_
    refine j_ldc2 C (20 : Int64) dX6_canBe_55 (by decide +kernel) ?_
    refine j_callSI (As := [.long (a1).toInt64, .long (1 : Int64), .long (20 : Int64)]) (rest := []) C (c_X6_in h) (va_cwS 3 C.2.2.2.2.2.1 gX6_canBe_X6_in rfl rfl rfl hdX6_in.2 ⟨Nat.le_of_ble_eq_true rfl, Nat.le_of_ble_eq_true rfl⟩) rfl rfl (Nat.le_of_ble_eq_true rfl) dX6_canBe_58 (fun r9 σ8 h => ?_)
    exact j_zret C dX6_canBe_61 h.1 h.2
  by_cases c10 : a0 = (3 : Int32)
  · replace h := h.2.2.2.1 c10
    refine j_tabIn (off := 61) C 62 dX6_canBe_1 (3 : Int32) c10 (by decide) (by decide) (by decide) (by decide) ?_
    refine j_iload_n C 1 dX6_canBe_62 rfl 1 rfl ?_
    refine j_i2l C dX6_canBe_63 rfl ?_
    refine j_lconst (v := (1 : Int64)) C dX6_canBe_64 (by decide) ?_
    refine j_ldc2 C (30 : Int64) dX6_canBe_65 (by decide +kernel) ?_
    refine j_callSI (As := [.long (a1).toInt64, .long (1 : Int64), .long (30 : Int64)]) (rest := []) C (c_X6_in h) (va_cwS 3 C.2.2.2.2.2.1 gX6_canBe_X6_in rfl rfl rfl hdX6_in.2 ⟨Nat.le_of_ble_eq_true rfl, Nat.le_of_ble_eq_true rfl⟩) rfl rfl (Nat.le_of_ble_eq_true rfl) dX6_canBe_68 (fun r12 σ11 h => ?_)
    exact j_zret C dX6_canBe_71 h.1 h.2
  replace h := h.2.2.2.2 c1 c4 c7 c10
  refine j_tabOut C 72 dX6_canBe_1 (tab_out (lo := 0) (hi := 3) (fun v h1 h2 => by rcases (show v = 0 ∨ v = 1 ∨ v = 2 ∨ v = 3 by omega) with rfl | rfl | rfl | rfl <;> assumption)) (by decide) ?_
  refine j_iconst (v := (0 : Int32)) C dX6_canBe_72 (by decide) ?_
  exact j_zret C dX6_canBe_73 (Or.inl rfl) h
def wp_X6_alter (a1 : Int32) (a2 : Int32) (a3 : Int32) (σ : Mem) (Q : Int32 → Mem → Prop) : Prop :=
  wp_X6_isHeir a1 σ (fun r2 σ1 => (r2 = 0 → Q (-1 : Int32) σ1) ∧ (¬ r2 = 0 → wp_X6_canBe a2 a3 σ1 (fun r5 σ4 => (r5 = 0 → Q (-1 : Int32) σ4) ∧ (¬ r5 = 0 → wp_X6_becomes ((((4 : Int32) * a1) + a2)) a3 σ4 (fun r8 σ7 => Q r8 σ7)))))
def rmX6_alter : Room := { frames := 2, cells := 0, slots := 0, locals := 46 }
theorem hdX6_alter : yX6_alter.cls = RX6 ∧ yX6_alter.cls ≠ "java/lang/invoke/MethodHandle" ∧ yX6_alter.cls ≠ "java/lang/invoke/VarHandle" ∧ (parseMethodDescriptor yX6_alter.desc).map (fun d => d.parameters.length) = some 3 := by decide +kernel
set_option maxHeartbeats 4000000 in
set_option maxRecDepth 100000 in
theorem c_X6_alter {l : Launch} {E : EE} {a1 : Int32} {a2 : Int32} {a3 : Int32}  {σ : Mem} {Q : Int32 → Mem → Prop} (h : wp_X6_alter a1 a2 a3 σ Q) : CtI l yX6_alter wsX6_alter rmX6_alter E [.ref (eA E 64), .int a1, .int a2, .int a3] σ Q := by
  refine metI (cc := cX6_alter) (nL := 4) (ret := (some .int)) (lv := [(0, .ref (eA E 64)), (1, .int a1), (2, .int a2), (3, .int a3)]) (by decide) rfl (Nat.le_of_ble_eq_true rfl) rfl ?_
  intro p e s m args below meth c C
  unfold wp_X6_alter at h
  refine j_aload_n C 0 dX6_alter_0 rfl 0 rfl ?_
  refine j_iload_n C 1 dX6_alter_1 rfl 1 rfl ?_
  refine j_callVI (As := [.int a1]) (rest := []) C 64 (c_X6_isHeir h) (cwV 1 C.2.2.2.2.2.1 gX6_alter_X6_isHeir rfl rfl rfl hdX6_isHeir ⟨Nat.le_of_ble_eq_true rfl, Nat.le_of_ble_eq_true rfl⟩) rfl rfl rfl rfl (Nat.le_of_ble_eq_true rfl) dX6_alter_2 (fun r2 σ1 h => ?_)
  refine j_if_eq C 29 dX6_alter_5 (by decide) (fun c3 => ?_) (fun c3 => ?_)
  · replace h := h.1 c3
    refine j_iconst (v := (-1 : Int32)) C dX6_alter_29 (by decide) ?_
    exact j_iret C dX6_alter_30 h
  · replace h := h.2 c3
    refine j_iload_n C 2 dX6_alter_8 rfl 2 rfl ?_
    refine j_iload_n C 3 dX6_alter_9 rfl 3 rfl ?_
    refine j_callSI (As := [.int a2, .int a3]) (rest := []) C (c_X6_canBe h) (va_cwS 2 C.2.2.2.2.2.1 gX6_alter_X6_canBe rfl rfl rfl hdX6_canBe.2 ⟨Nat.le_of_ble_eq_true rfl, Nat.le_of_ble_eq_true rfl⟩) rfl rfl (Nat.le_of_ble_eq_true rfl) dX6_alter_10 (fun r5 σ4 h => ?_)
    refine j_if_eq C 29 dX6_alter_13 (by decide) (fun c6 => ?_) (fun c6 => ?_)
    · replace h := h.1 c6
      refine j_iconst (v := (-1 : Int32)) C dX6_alter_29 (by decide) ?_
      exact j_iret C dX6_alter_30 h
    · replace h := h.2 c6
      refine j_aload_n C 0 dX6_alter_16 rfl 0 rfl ?_
      refine j_iconst (v := (4 : Int32)) C dX6_alter_17 (by decide) ?_
      refine j_iload_n C 1 dX6_alter_18 rfl 1 rfl ?_
      refine j_imul C dX6_alter_19 ?_
      refine j_iload_n C 2 dX6_alter_20 rfl 2 rfl ?_
      refine j_iadd C dX6_alter_21 ?_
      refine j_iload_n C 3 dX6_alter_22 rfl 3 rfl ?_
      refine j_callVI (As := [.int (((4 : Int32) * a1) + a2), .int a3]) (rest := []) C 64 (c_X6_becomes h) (cwV 2 C.2.2.2.2.2.1 gX6_alter_X6_becomes rfl rfl rfl hdX6_becomes ⟨Nat.le_of_ble_eq_true rfl, Nat.le_of_ble_eq_true rfl⟩) rfl rfl rfl rfl (Nat.le_of_ble_eq_true rfl) dX6_alter_23 (fun r8 σ7 h => ?_)
      refine j_goto C 30 dX6_alter_26 (by decide) ?_
      exact j_iret C dX6_alter_30 h
def wp_X6_lumbago (a1 : Int32) (σ : Mem) (Q : Int32 → Mem → Prop) : Prop :=
  wp_X6_in ((a1).toInt64) (0 : Int64) (9 : Int64) σ (fun r2 σ1 => (r2 = 0 → Q (-1 : Int32) σ1) ∧ (¬ r2 = 0 → wp_X6_becomes (31 : Int32) a1 σ1 (fun r5 σ4 => Q r5 σ4)))
def rmX6_lumbago : Room := { frames := 1, cells := 0, slots := 0, locals := 25 }
theorem hdX6_lumbago : yX6_lumbago.cls = RX6 ∧ yX6_lumbago.cls ≠ "java/lang/invoke/MethodHandle" ∧ yX6_lumbago.cls ≠ "java/lang/invoke/VarHandle" ∧ (parseMethodDescriptor yX6_lumbago.desc).map (fun d => d.parameters.length) = some 1 := by decide +kernel
set_option maxHeartbeats 4000000 in
set_option maxRecDepth 100000 in
theorem c_X6_lumbago {l : Launch} {E : EE} {a1 : Int32}  {σ : Mem} {Q : Int32 → Mem → Prop} (h : wp_X6_lumbago a1 σ Q) : CtI l yX6_lumbago wsX6_lumbago rmX6_lumbago E [.ref (eA E 64), .int a1] σ Q := by
  refine metI (cc := cX6_lumbago) (nL := 2) (ret := (some .int)) (lv := [(0, .ref (eA E 64)), (1, .int a1)]) (by decide) rfl (Nat.le_of_ble_eq_true rfl) rfl ?_
  intro p e s m args below meth c C
  unfold wp_X6_lumbago at h
  refine j_iload_n C 1 dX6_lumbago_0 rfl 1 rfl ?_
  refine j_i2l C dX6_lumbago_1 rfl ?_
  refine j_lconst (v := (0 : Int64)) C dX6_lumbago_2 (by decide) ?_
  refine j_ldc2 C (9 : Int64) dX6_lumbago_3 (by decide +kernel) ?_
  refine j_callSI (As := [.long (a1).toInt64, .long (0 : Int64), .long (9 : Int64)]) (rest := []) C (c_X6_in h) (va_cwS 3 C.2.2.2.2.2.1 gX6_lumbago_X6_in rfl rfl rfl hdX6_in.2 ⟨Nat.le_of_ble_eq_true rfl, Nat.le_of_ble_eq_true rfl⟩) rfl rfl (Nat.le_of_ble_eq_true rfl) dX6_lumbago_6 (fun r2 σ1 h => ?_)
  refine j_if_eq C 22 dX6_lumbago_9 (by decide) (fun c3 => ?_) (fun c3 => ?_)
  · replace h := h.1 c3
    refine j_iconst (v := (-1 : Int32)) C dX6_lumbago_22 (by decide) ?_
    exact j_iret C dX6_lumbago_23 h
  · replace h := h.2 c3
    refine j_aload_n C 0 dX6_lumbago_12 rfl 0 rfl ?_
    refine j_bipush (v := (31 : Int32)) C dX6_lumbago_13 (by decide) ?_
    refine j_iload_n C 1 dX6_lumbago_15 rfl 1 rfl ?_
    refine j_callVI (As := [.int (31 : Int32), .int a1]) (rest := []) C 64 (c_X6_becomes h) (cwV 2 C.2.2.2.2.2.1 gX6_lumbago_X6_becomes rfl rfl rfl hdX6_becomes ⟨Nat.le_of_ble_eq_true rfl, Nat.le_of_ble_eq_true rfl⟩) rfl rfl rfl rfl (Nat.le_of_ble_eq_true rfl) dX6_lumbago_16 (fun r5 σ4 h => ?_)
    refine j_goto C 23 dX6_lumbago_19 (by decide) ?_
    exact j_iret C dX6_lumbago_23 h
def wp_X6_works (a1 : Int32) (σ : Mem) (Q : Int32 → Mem → Prop) : Prop :=
  wp_X6_in ((a1).toInt64) (0 : Int64) (999 : Int64) σ (fun r2 σ1 => (r2 = 0 → Q (-1 : Int32) σ1) ∧ (¬ r2 = 0 → wp_X6_becomes (32 : Int32) a1 σ1 (fun r5 σ4 => Q r5 σ4)))
def rmX6_works : Room := { frames := 1, cells := 0, slots := 0, locals := 25 }
theorem hdX6_works : yX6_works.cls = RX6 ∧ yX6_works.cls ≠ "java/lang/invoke/MethodHandle" ∧ yX6_works.cls ≠ "java/lang/invoke/VarHandle" ∧ (parseMethodDescriptor yX6_works.desc).map (fun d => d.parameters.length) = some 1 := by decide +kernel
set_option maxHeartbeats 4000000 in
set_option maxRecDepth 100000 in
theorem c_X6_works {l : Launch} {E : EE} {a1 : Int32}  {σ : Mem} {Q : Int32 → Mem → Prop} (h : wp_X6_works a1 σ Q) : CtI l yX6_works wsX6_works rmX6_works E [.ref (eA E 64), .int a1] σ Q := by
  refine metI (cc := cX6_works) (nL := 2) (ret := (some .int)) (lv := [(0, .ref (eA E 64)), (1, .int a1)]) (by decide) rfl (Nat.le_of_ble_eq_true rfl) rfl ?_
  intro p e s m args below meth c C
  unfold wp_X6_works at h
  refine j_iload_n C 1 dX6_works_0 rfl 1 rfl ?_
  refine j_i2l C dX6_works_1 rfl ?_
  refine j_lconst (v := (0 : Int64)) C dX6_works_2 (by decide) ?_
  refine j_ldc2 C (999 : Int64) dX6_works_3 (by decide +kernel) ?_
  refine j_callSI (As := [.long (a1).toInt64, .long (0 : Int64), .long (999 : Int64)]) (rest := []) C (c_X6_in h) (va_cwS 3 C.2.2.2.2.2.1 gX6_works_X6_in rfl rfl rfl hdX6_in.2 ⟨Nat.le_of_ble_eq_true rfl, Nat.le_of_ble_eq_true rfl⟩) rfl rfl (Nat.le_of_ble_eq_true rfl) dX6_works_6 (fun r2 σ1 h => ?_)
  refine j_if_eq C 22 dX6_works_9 (by decide) (fun c3 => ?_) (fun c3 => ?_)
  · replace h := h.1 c3
    refine j_iconst (v := (-1 : Int32)) C dX6_works_22 (by decide) ?_
    exact j_iret C dX6_works_23 h
  · replace h := h.2 c3
    refine j_aload_n C 0 dX6_works_12 rfl 0 rfl ?_
    refine j_bipush (v := (32 : Int32)) C dX6_works_13 (by decide) ?_
    refine j_iload_n C 1 dX6_works_15 rfl 1 rfl ?_
    refine j_callVI (As := [.int (32 : Int32), .int a1]) (rest := []) C 64 (c_X6_becomes h) (cwV 2 C.2.2.2.2.2.1 gX6_works_X6_becomes rfl rfl rfl hdX6_becomes ⟨Nat.le_of_ble_eq_true rfl, Nat.le_of_ble_eq_true rfl⟩) rfl rfl rfl rfl (Nat.le_of_ble_eq_true rfl) dX6_works_16 (fun r5 σ4 h => ?_)
    refine j_goto C 23 dX6_works_19 (by decide) ?_
    exact j_iret C dX6_works_23 h
def wp_X6_change (a1 : Int32) (a2 : Int32) (σ : Mem) (Q : Int32 → Mem → Prop) : Prop :=
  wp_X6_isHeir a1 σ (fun r2 σ1 => (r2 = 0 → Q (-1 : Int32) σ1) ∧ (¬ r2 = 0 → wp_X6_isHeir a2 σ1 (fun r5 σ4 => (r5 = 0 → Q (-1 : Int32) σ4) ∧ (¬ r5 = 0 → (¬ a1 = a2 → vp_in ((25 : Int32) + a1) 147 ∧ (∀ v8 : Int32, v8 = (σ4.1 65 (((25 : Int32) + a1)).toNatClampNeg) → vp_in ((25 : Int32) + a2) 147 ∧ (vp_in ((25 : Int32) + a1) 147 ∧ (∀ σ9 : Mem, σ9 = st1 σ4 65 (((25 : Int32) + a1)).toNatClampNeg (σ4.1 65 (((25 : Int32) + a2)).toNatClampNeg) → vp_in ((25 : Int32) + a2) 147 ∧ (∀ σ10 : Mem, σ10 = st1 σ9 65 (((25 : Int32) + a2)).toNatClampNeg v8 → Q v8 σ10))))) ∧ (a1 = a2 → Q (-1 : Int32) σ4)))))
theorem in_X6_change_X6 : ∀ w ∈ wsX60, w ∈ wsX6_change := fun _ h => List.mem_cons_of_mem _ (List.mem_append_right _ h)
def rmX6_change : Room := { frames := 2, cells := 0, slots := 0, locals := 46 }
theorem hdX6_change : yX6_change.cls = RX6 ∧ yX6_change.cls ≠ "java/lang/invoke/MethodHandle" ∧ yX6_change.cls ≠ "java/lang/invoke/VarHandle" ∧ (parseMethodDescriptor yX6_change.desc).map (fun d => d.parameters.length) = some 2 := by decide +kernel
set_option maxHeartbeats 4000000 in
set_option maxRecDepth 100000 in
theorem c_X6_change {l : Launch} {E : EE} {a1 : Int32} {a2 : Int32}  {σ : Mem} {Q : Int32 → Mem → Prop} (h : wp_X6_change a1 a2 σ Q) : CtI l yX6_change wsX6_change rmX6_change E [.ref (eA E 64), .int a1, .int a2] σ Q := by
  refine metI (cc := cX6_change) (nL := 4) (ret := (some .int)) (lv := [(0, .ref (eA E 64)), (1, .int a1), (2, .int a2)]) (by decide) rfl (Nat.le_of_ble_eq_true rfl) rfl ?_
  intro p e s m args below meth c C
  unfold wp_X6_change at h
  refine j_aload_n C 0 dX6_change_0 rfl 0 rfl ?_
  refine j_iload_n C 1 dX6_change_1 rfl 1 rfl ?_
  refine j_callVI (As := [.int a1]) (rest := []) C 64 (c_X6_isHeir h) (cwV 1 C.2.2.2.2.2.1 gX6_change_X6_isHeir rfl rfl rfl hdX6_isHeir ⟨Nat.le_of_ble_eq_true rfl, Nat.le_of_ble_eq_true rfl⟩) rfl rfl rfl rfl (Nat.le_of_ble_eq_true rfl) dX6_change_2 (fun r2 σ1 h => ?_)
  refine j_if_eq C 21 dX6_change_5 (by decide) (fun c3 => ?_) (fun c3 => ?_)
  · replace h := h.1 c3
    refine j_iconst (v := (-1 : Int32)) C dX6_change_21 (by decide) ?_
    exact j_iret C dX6_change_22 h
  · replace h := h.2 c3
    refine j_aload_n C 0 dX6_change_8 rfl 0 rfl ?_
    refine j_iload_n C 2 dX6_change_9 rfl 2 rfl ?_
    refine j_callVI (As := [.int a2]) (rest := []) C 64 (c_X6_isHeir h) (cwV 1 C.2.2.2.2.2.1 gX6_change_X6_isHeir rfl rfl rfl hdX6_isHeir ⟨Nat.le_of_ble_eq_true rfl, Nat.le_of_ble_eq_true rfl⟩) rfl rfl rfl rfl (Nat.le_of_ble_eq_true rfl) dX6_change_10 (fun r5 σ4 h => ?_)
    refine j_if_eq C 21 dX6_change_13 (by decide) (fun c6 => ?_) (fun c6 => ?_)
    · replace h := h.1 c6
      refine j_iconst (v := (-1 : Int32)) C dX6_change_21 (by decide) ?_
      exact j_iret C dX6_change_22 h
    · replace h := h.2 c6
      refine j_iload_n C 1 dX6_change_16 rfl 1 rfl ?_
      refine j_iload_n C 2 dX6_change_17 rfl 2 rfl ?_
      refine j_icmp_ne C 23 dX6_change_18 (by decide) (fun c7 => ?_) (fun c7 => ?_)
      · replace h := h.1 c7
        refine j_aload_n C 0 dX6_change_23 rfl 0 rfl ?_
        refine j_getR C 65 64 0 rfl rfl rfl in_X6_change_X6 (by decide) (by decide +kernel) dX6_change_24 ?_
        refine j_bipush (v := (25 : Int32)) C dX6_change_27 (by decide) ?_
        refine j_iload_n C 1 dX6_change_29 rfl 1 rfl ?_
        refine j_iadd C dX6_change_30 ?_
        refine j_iald C 65 rfl dX6_change_31 h.1 ?_
        replace h := h.2
        refine j_topi (fun v8 ev8 => ?_)
        replace h := h v8 ev8
        refine j_istore_n (lv' := [(3, .int v8), (0, .ref (eA E 64)), (1, .int a1), (2, .int a2)]) C 3 dX6_change_32 rfl (by decide) rfl ?_
        refine j_aload_n C 0 dX6_change_33 rfl 1 rfl ?_
        refine j_getR C 65 64 0 rfl rfl rfl in_X6_change_X6 (by decide) (by decide +kernel) dX6_change_34 ?_
        refine j_bipush (v := (25 : Int32)) C dX6_change_37 (by decide) ?_
        refine j_iload_n C 1 dX6_change_39 rfl 2 rfl ?_
        refine j_iadd C dX6_change_40 ?_
        refine j_aload_n C 0 dX6_change_41 rfl 1 rfl ?_
        refine j_getR C 65 64 0 rfl rfl rfl in_X6_change_X6 (by decide) (by decide +kernel) dX6_change_42 ?_
        refine j_bipush (v := (25 : Int32)) C dX6_change_45 (by decide) ?_
        refine j_iload_n C 2 dX6_change_47 rfl 3 rfl ?_
        refine j_iadd C dX6_change_48 ?_
        refine j_iald C 65 rfl dX6_change_49 h.1 ?_
        replace h := h.2
        refine j_iast C 65 rfl dX6_change_50 h.1 ?_
        replace h := h.2
        refine j_mem (fun σ9 eσ9 => ?_)
        replace h := h σ9 eσ9
        refine j_aload_n C 0 dX6_change_51 rfl 1 rfl ?_
        refine j_getR C 65 64 0 rfl rfl rfl in_X6_change_X6 (by decide) (by decide +kernel) dX6_change_52 ?_
        refine j_bipush (v := (25 : Int32)) C dX6_change_55 (by decide) ?_
        refine j_iload_n C 2 dX6_change_57 rfl 3 rfl ?_
        refine j_iadd C dX6_change_58 ?_
        refine j_iload_n C 3 dX6_change_59 rfl 0 rfl ?_
        refine j_iast C 65 rfl dX6_change_60 h.1 ?_
        replace h := h.2
        refine j_mem (fun σ10 eσ10 => ?_)
        replace h := h σ10 eσ10
        refine j_iload_n C 3 dX6_change_61 rfl 0 rfl ?_
        exact j_iret C dX6_change_62 h
      · replace h := h.2 c7
        refine j_iconst (v := (-1 : Int32)) C dX6_change_21 (by decide) ?_
        exact j_iret C dX6_change_22 h
def wp_X6_bear (a1 : Int32) (a2 : Int32) (a3 : Int32) (σ : Mem) (Q : Int32 → Mem → Prop) : Prop :=
  wp_X6_canBe (1 : Int32) a1 σ (fun r2 σ1 => (r2 = 0 → Q (-1 : Int32) σ1) ∧ (¬ r2 = 0 → wp_X6_canBe (2 : Int32) a2 σ1 (fun r5 σ4 => (r5 = 0 → Q (-1 : Int32) σ4) ∧ (¬ r5 = 0 → wp_X6_canBe (3 : Int32) a3 σ4 (fun r8 σ7 => (¬ r8 = 0 → (¬ (σ7.1 65 ((24 : Int32)).toNatClampNeg) = (6 : Int32) → ∀ v11 : Int32, v11 = ((4 : Int32) * (σ7.1 65 ((24 : Int32)).toNatClampNeg)) → vp_in (v11 + (0 : Int32)) 147 ∧ (∀ σ12 : Mem, σ12 = st1 σ7 65 ((v11 + (0 : Int32))).toNatClampNeg (0 : Int32) → vp_in (v11 + (1 : Int32)) 147 ∧ (∀ σ13 : Mem, σ13 = st1 σ12 65 ((v11 + (1 : Int32))).toNatClampNeg a1 → vp_in (v11 + (2 : Int32)) 147 ∧ (∀ σ14 : Mem, σ14 = st1 σ13 65 ((v11 + (2 : Int32))).toNatClampNeg a2 → vp_in (v11 + (3 : Int32)) 147 ∧ (∀ σ15 : Mem, σ15 = st1 σ14 65 ((v11 + (3 : Int32))).toNatClampNeg a3 → vp_in ((25 : Int32) + (σ15.1 65 ((24 : Int32)).toNatClampNeg)) 147 ∧ (∀ σ16 : Mem, σ16 = st1 σ15 65 (((25 : Int32) + (σ15.1 65 ((24 : Int32)).toNatClampNeg))).toNatClampNeg (σ15.1 65 ((24 : Int32)).toNatClampNeg) → ∀ σ17 : Mem, σ17 = st1 σ16 65 ((24 : Int32)).toNatClampNeg ((σ16.1 65 ((24 : Int32)).toNatClampNeg) + (1 : Int32)) → Q (σ17.1 65 ((24 : Int32)).toNatClampNeg) σ17)))))) ∧ ((σ7.1 65 ((24 : Int32)).toNatClampNeg) = (6 : Int32) → Q (-3 : Int32) σ7)) ∧ (r8 = 0 → Q (-1 : Int32) σ7))))))
theorem in_X6_bear_X6 : ∀ w ∈ wsX60, w ∈ wsX6_bear := fun _ h => List.mem_cons_of_mem _ (List.mem_append_right _ h)
def rmX6_bear : Room := { frames := 2, cells := 0, slots := 0, locals := 46 }
theorem hdX6_bear : yX6_bear.cls = RX6 ∧ yX6_bear.cls ≠ "java/lang/invoke/MethodHandle" ∧ yX6_bear.cls ≠ "java/lang/invoke/VarHandle" ∧ (parseMethodDescriptor yX6_bear.desc).map (fun d => d.parameters.length) = some 3 := by decide +kernel
set_option maxHeartbeats 4000000 in
set_option maxRecDepth 100000 in
theorem c_X6_bear {l : Launch} {E : EE} {a1 : Int32} {a2 : Int32} {a3 : Int32}  {σ : Mem} {Q : Int32 → Mem → Prop} (h : wp_X6_bear a1 a2 a3 σ Q) : CtI l yX6_bear wsX6_bear rmX6_bear E [.ref (eA E 64), .int a1, .int a2, .int a3] σ Q := by
  refine metI (cc := cX6_bear) (nL := 5) (ret := (some .int)) (lv := [(0, .ref (eA E 64)), (1, .int a1), (2, .int a2), (3, .int a3)]) (by decide) rfl (Nat.le_of_ble_eq_true rfl) rfl ?_
  intro p e s m args below meth c C
  unfold wp_X6_bear at h
  refine j_iconst (v := (1 : Int32)) C dX6_bear_0 (by decide) ?_
  refine j_iload_n C 1 dX6_bear_1 rfl 1 rfl ?_
  refine j_callSI (As := [.int (1 : Int32), .int a1]) (rest := []) C (c_X6_canBe h) (va_cwS 2 C.2.2.2.2.2.1 gX6_bear_X6_canBe rfl rfl rfl hdX6_canBe.2 ⟨Nat.le_of_ble_eq_true rfl, Nat.le_of_ble_eq_true rfl⟩) rfl rfl (Nat.le_of_ble_eq_true rfl) dX6_bear_2 (fun r2 σ1 h => ?_)
  refine j_if_eq C 24 dX6_bear_5 (by decide) (fun c3 => ?_) (fun c3 => ?_)
  · replace h := h.1 c3
    refine j_iconst (v := (-1 : Int32)) C dX6_bear_24 (by decide) ?_
    exact j_iret C dX6_bear_25 h
  · replace h := h.2 c3
    refine j_iconst (v := (2 : Int32)) C dX6_bear_8 (by decide) ?_
    refine j_iload_n C 2 dX6_bear_9 rfl 2 rfl ?_
    refine j_callSI (As := [.int (2 : Int32), .int a2]) (rest := []) C (c_X6_canBe h) (va_cwS 2 C.2.2.2.2.2.1 gX6_bear_X6_canBe rfl rfl rfl hdX6_canBe.2 ⟨Nat.le_of_ble_eq_true rfl, Nat.le_of_ble_eq_true rfl⟩) rfl rfl (Nat.le_of_ble_eq_true rfl) dX6_bear_10 (fun r5 σ4 h => ?_)
    refine j_if_eq C 24 dX6_bear_13 (by decide) (fun c6 => ?_) (fun c6 => ?_)
    · replace h := h.1 c6
      refine j_iconst (v := (-1 : Int32)) C dX6_bear_24 (by decide) ?_
      exact j_iret C dX6_bear_25 h
    · replace h := h.2 c6
      refine j_iconst (v := (3 : Int32)) C dX6_bear_16 (by decide) ?_
      refine j_iload_n C 3 dX6_bear_17 rfl 3 rfl ?_
      refine j_callSI (As := [.int (3 : Int32), .int a3]) (rest := []) C (c_X6_canBe h) (va_cwS 2 C.2.2.2.2.2.1 gX6_bear_X6_canBe rfl rfl rfl hdX6_canBe.2 ⟨Nat.le_of_ble_eq_true rfl, Nat.le_of_ble_eq_true rfl⟩) rfl rfl (Nat.le_of_ble_eq_true rfl) dX6_bear_18 (fun r8 σ7 h => ?_)
      refine j_if_ne C 26 dX6_bear_21 (by decide) (fun c9 => ?_) (fun c9 => ?_)
      · replace h := h.1 c9
        refine j_aload_n C 0 dX6_bear_26 rfl 0 rfl ?_
        refine j_getR C 65 64 0 rfl rfl rfl in_X6_bear_X6 (by decide) (by decide +kernel) dX6_bear_27 ?_
        refine j_bipush (v := (24 : Int32)) C dX6_bear_30 (by decide) ?_
        refine j_iald C 65 rfl dX6_bear_32 (in_lit rfl) ?_
        refine j_bipush (v := (6 : Int32)) C dX6_bear_33 (by decide) ?_
        refine j_icmp_ne C 41 dX6_bear_35 (by decide) (fun c10 => ?_) (fun c10 => ?_)
        · replace h := h.1 c10
          refine j_iconst (v := (4 : Int32)) C dX6_bear_41 (by decide) ?_
          refine j_aload_n C 0 dX6_bear_42 rfl 0 rfl ?_
          refine j_getR C 65 64 0 rfl rfl rfl in_X6_bear_X6 (by decide) (by decide +kernel) dX6_bear_43 ?_
          refine j_bipush (v := (24 : Int32)) C dX6_bear_46 (by decide) ?_
          refine j_iald C 65 rfl dX6_bear_48 (in_lit rfl) ?_
          refine j_imul C dX6_bear_49 ?_
          refine j_topi (fun v11 ev11 => ?_)
          replace h := h v11 ev11
          refine j_istore (lv' := [(4, .int v11), (0, .ref (eA E 64)), (1, .int a1), (2, .int a2), (3, .int a3)]) C 4 dX6_bear_50 (by decide) rfl ?_
          refine j_aload_n C 0 dX6_bear_52 rfl 1 rfl ?_
          refine j_getR C 65 64 0 rfl rfl rfl in_X6_bear_X6 (by decide) (by decide +kernel) dX6_bear_53 ?_
          refine j_iload C 4 dX6_bear_56 0 rfl ?_
          refine j_iconst (v := (0 : Int32)) C dX6_bear_58 (by decide) ?_
          refine j_iadd C dX6_bear_59 ?_
          refine j_iconst (v := (0 : Int32)) C dX6_bear_60 (by decide) ?_
          refine j_iast C 65 rfl dX6_bear_61 h.1 ?_
          replace h := h.2
          refine j_mem (fun σ12 eσ12 => ?_)
          replace h := h σ12 eσ12
          refine j_aload_n C 0 dX6_bear_62 rfl 1 rfl ?_
          refine j_getR C 65 64 0 rfl rfl rfl in_X6_bear_X6 (by decide) (by decide +kernel) dX6_bear_63 ?_
          refine j_iload C 4 dX6_bear_66 0 rfl ?_
          refine j_iconst (v := (1 : Int32)) C dX6_bear_68 (by decide) ?_
          refine j_iadd C dX6_bear_69 ?_
          refine j_iload_n C 1 dX6_bear_70 rfl 2 rfl ?_
          refine j_iast C 65 rfl dX6_bear_71 h.1 ?_
          replace h := h.2
          refine j_mem (fun σ13 eσ13 => ?_)
          replace h := h σ13 eσ13
          refine j_aload_n C 0 dX6_bear_72 rfl 1 rfl ?_
          refine j_getR C 65 64 0 rfl rfl rfl in_X6_bear_X6 (by decide) (by decide +kernel) dX6_bear_73 ?_
          refine j_iload C 4 dX6_bear_76 0 rfl ?_
          refine j_iconst (v := (2 : Int32)) C dX6_bear_78 (by decide) ?_
          refine j_iadd C dX6_bear_79 ?_
          refine j_iload_n C 2 dX6_bear_80 rfl 3 rfl ?_
          refine j_iast C 65 rfl dX6_bear_81 h.1 ?_
          replace h := h.2
          refine j_mem (fun σ14 eσ14 => ?_)
          replace h := h σ14 eσ14
          refine j_aload_n C 0 dX6_bear_82 rfl 1 rfl ?_
          refine j_getR C 65 64 0 rfl rfl rfl in_X6_bear_X6 (by decide) (by decide +kernel) dX6_bear_83 ?_
          refine j_iload C 4 dX6_bear_86 0 rfl ?_
          refine j_iconst (v := (3 : Int32)) C dX6_bear_88 (by decide) ?_
          refine j_iadd C dX6_bear_89 ?_
          refine j_iload_n C 3 dX6_bear_90 rfl 4 rfl ?_
          refine j_iast C 65 rfl dX6_bear_91 h.1 ?_
          replace h := h.2
          refine j_mem (fun σ15 eσ15 => ?_)
          replace h := h σ15 eσ15
          refine j_aload_n C 0 dX6_bear_92 rfl 1 rfl ?_
          refine j_getR C 65 64 0 rfl rfl rfl in_X6_bear_X6 (by decide) (by decide +kernel) dX6_bear_93 ?_
          refine j_bipush (v := (25 : Int32)) C dX6_bear_96 (by decide) ?_
          refine j_aload_n C 0 dX6_bear_98 rfl 1 rfl ?_
          refine j_getR C 65 64 0 rfl rfl rfl in_X6_bear_X6 (by decide) (by decide +kernel) dX6_bear_99 ?_
          refine j_bipush (v := (24 : Int32)) C dX6_bear_102 (by decide) ?_
          refine j_iald C 65 rfl dX6_bear_104 (in_lit rfl) ?_
          refine j_iadd C dX6_bear_105 ?_
          refine j_aload_n C 0 dX6_bear_106 rfl 1 rfl ?_
          refine j_getR C 65 64 0 rfl rfl rfl in_X6_bear_X6 (by decide) (by decide +kernel) dX6_bear_107 ?_
          refine j_bipush (v := (24 : Int32)) C dX6_bear_110 (by decide) ?_
          refine j_iald C 65 rfl dX6_bear_112 (in_lit rfl) ?_
          refine j_iast C 65 rfl dX6_bear_113 h.1 ?_
          replace h := h.2
          refine j_mem (fun σ16 eσ16 => ?_)
          replace h := h σ16 eσ16
          refine j_aload_n C 0 dX6_bear_114 rfl 1 rfl ?_
          refine j_getR C 65 64 0 rfl rfl rfl in_X6_bear_X6 (by decide) (by decide +kernel) dX6_bear_115 ?_
          refine j_bipush (v := (24 : Int32)) C dX6_bear_118 (by decide) ?_
          refine j_dup2 C dX6_bear_120 rfl rfl ?_
          refine j_iald C 65 rfl dX6_bear_121 (in_lit rfl) ?_
          refine j_iconst (v := (1 : Int32)) C dX6_bear_122 (by decide) ?_
          refine j_iadd C dX6_bear_123 ?_
          refine j_iast C 65 rfl dX6_bear_124 (in_lit rfl) ?_
          refine j_mem (fun σ17 eσ17 => ?_)
          replace h := h σ17 eσ17
          refine j_aload_n C 0 dX6_bear_125 rfl 1 rfl ?_
          refine j_getR C 65 64 0 rfl rfl rfl in_X6_bear_X6 (by decide) (by decide +kernel) dX6_bear_126 ?_
          refine j_bipush (v := (24 : Int32)) C dX6_bear_129 (by decide) ?_
          refine j_iald C 65 rfl dX6_bear_131 (in_lit rfl) ?_
          exact j_iret C dX6_bear_132 h
        · replace h := h.2 c10
          refine j_bipush (v := (-3 : Int32)) C dX6_bear_38 (by decide) ?_
          exact j_iret C dX6_bear_40 h
      · replace h := h.2 c9
        refine j_iconst (v := (-1 : Int32)) C dX6_bear_24 (by decide) ?_
        exact j_iret C dX6_bear_25 h
def wp_X6_reigns (a1 : Int32) (σ : Mem) (Q : Int32 → Mem → Prop) : Prop :=
  wp_X6_in ((a1).toInt64) (0 : Int64) (30 : Int64) σ (fun r2 σ1 => (¬ r2 = 0 → wp_X6_areTwo σ1 (fun r5 σ4 => (¬ r5 = 0 → (((σ4.1 65 ((33 : Int32)).toNatClampNeg) + a1) ≤ (999 : Int32) → wp_X6_starts σ4 (fun σ8 => wp_X6_reignsGo a1 σ8 (fun σ9 => wp_X6_settles σ9 (fun σ10 => Q (σ10.1 65 ((32 : Int32)).toNatClampNeg) σ10)))) ∧ (¬ ((σ4.1 65 ((33 : Int32)).toNatClampNeg) + a1) ≤ (999 : Int32) → Q (-3 : Int32) σ4)) ∧ (r5 = 0 → Q (-2 : Int32) σ4))) ∧ (r2 = 0 → Q (-1 : Int32) σ1))
theorem in_X6_reigns_X6 : ∀ w ∈ wsX60, w ∈ wsX6_reigns := fun _ h => List.mem_cons_of_mem _ (List.mem_append_right _ h)
def rmX6_reigns : Room := { frames := 4, cells := 0, slots := 0, locals := 89 }
theorem hdX6_reigns : yX6_reigns.cls = RX6 ∧ yX6_reigns.cls ≠ "java/lang/invoke/MethodHandle" ∧ yX6_reigns.cls ≠ "java/lang/invoke/VarHandle" ∧ (parseMethodDescriptor yX6_reigns.desc).map (fun d => d.parameters.length) = some 1 := by decide +kernel
set_option maxHeartbeats 4000000 in
set_option maxRecDepth 100000 in
theorem c_X6_reigns {l : Launch} {E : EE} {a1 : Int32}  {σ : Mem} {Q : Int32 → Mem → Prop} (h : wp_X6_reigns a1 σ Q) : CtI l yX6_reigns wsX6_reigns rmX6_reigns E [.ref (eA E 64), .int a1] σ Q := by
  refine metI (cc := cX6_reigns) (nL := 2) (ret := (some .int)) (lv := [(0, .ref (eA E 64)), (1, .int a1)]) (by decide) rfl (Nat.le_of_ble_eq_true rfl) rfl ?_
  intro p e s m args below meth c C
  unfold wp_X6_reigns at h
  refine j_iload_n C 1 dX6_reigns_0 rfl 1 rfl ?_
  refine j_i2l C dX6_reigns_1 rfl ?_
  refine j_lconst (v := (0 : Int64)) C dX6_reigns_2 (by decide) ?_
  refine j_ldc2 C (30 : Int64) dX6_reigns_3 (by decide +kernel) ?_
  refine j_callSI (As := [.long (a1).toInt64, .long (0 : Int64), .long (30 : Int64)]) (rest := []) C (c_X6_in h) (va_cwS 3 C.2.2.2.2.2.1 gX6_reigns_X6_in rfl rfl rfl hdX6_in.2 ⟨Nat.le_of_ble_eq_true rfl, Nat.le_of_ble_eq_true rfl⟩) rfl rfl (Nat.le_of_ble_eq_true rfl) dX6_reigns_6 (fun r2 σ1 h => ?_)
  refine j_if_ne C 14 dX6_reigns_9 (by decide) (fun c3 => ?_) (fun c3 => ?_)
  · replace h := h.1 c3
    refine j_aload_n C 0 dX6_reigns_14 rfl 0 rfl ?_
    refine j_callVI (As := []) (rest := []) C 64 (c_X6_areTwo h) (cwV 0 C.2.2.2.2.2.1 gX6_reigns_X6_areTwo rfl rfl rfl hdX6_areTwo ⟨Nat.le_of_ble_eq_true rfl, Nat.le_of_ble_eq_true rfl⟩) rfl rfl rfl rfl (Nat.le_of_ble_eq_true rfl) dX6_reigns_15 (fun r5 σ4 h => ?_)
    refine j_if_ne C 24 dX6_reigns_18 (by decide) (fun c6 => ?_) (fun c6 => ?_)
    · replace h := h.1 c6
      refine j_aload_n C 0 dX6_reigns_24 rfl 0 rfl ?_
      refine j_getR C 65 64 0 rfl rfl rfl in_X6_reigns_X6 (by decide) (by decide +kernel) dX6_reigns_25 ?_
      refine j_bipush (v := (33 : Int32)) C dX6_reigns_28 (by decide) ?_
      refine j_iald C 65 rfl dX6_reigns_30 (in_lit rfl) ?_
      refine j_iload_n C 1 dX6_reigns_31 rfl 1 rfl ?_
      refine j_iadd C dX6_reigns_32 ?_
      refine j_sipush (v := (999 : Int32)) C dX6_reigns_33 (by decide) ?_
      refine j_icmp_le C 42 dX6_reigns_36 (by decide) (fun c7 => ?_) (fun c7 => ?_)
      · replace h := h.1 c7
        refine j_aload_n C 0 dX6_reigns_42 rfl 0 rfl ?_
        refine j_callVV (As := []) (rest := []) C 64 (c_X6_starts h) (cwV 0 C.2.2.2.2.2.1 gX6_reigns_X6_starts rfl rfl rfl hdX6_starts ⟨Nat.le_of_ble_eq_true rfl, Nat.le_of_ble_eq_true rfl⟩) rfl rfl rfl rfl (Nat.le_of_ble_eq_true rfl) dX6_reigns_43 (fun σ8 h => ?_)
        refine j_aload_n C 0 dX6_reigns_46 rfl 0 rfl ?_
        refine j_iload_n C 1 dX6_reigns_47 rfl 1 rfl ?_
        refine j_callVV (As := [.int a1]) (rest := []) C 64 (c_X6_reignsGo h) (cwV 1 C.2.2.2.2.2.1 gX6_reigns_X6_reignsGo rfl rfl rfl hdX6_reignsGo ⟨Nat.le_of_ble_eq_true rfl, Nat.le_of_ble_eq_true rfl⟩) rfl rfl rfl rfl (Nat.le_of_ble_eq_true rfl) dX6_reigns_48 (fun σ9 h => ?_)
        refine j_aload_n C 0 dX6_reigns_51 rfl 0 rfl ?_
        refine j_callVV (As := []) (rest := []) C 64 (c_X6_settles h) (cwV 0 C.2.2.2.2.2.1 gX6_reigns_X6_settles rfl rfl rfl hdX6_settles ⟨Nat.le_of_ble_eq_true rfl, Nat.le_of_ble_eq_true rfl⟩) rfl rfl rfl rfl (Nat.le_of_ble_eq_true rfl) dX6_reigns_52 (fun σ10 h => ?_)
        refine j_aload_n C 0 dX6_reigns_55 rfl 0 rfl ?_
        refine j_getR C 65 64 0 rfl rfl rfl in_X6_reigns_X6 (by decide) (by decide +kernel) dX6_reigns_56 ?_
        refine j_bipush (v := (32 : Int32)) C dX6_reigns_59 (by decide) ?_
        refine j_iald C 65 rfl dX6_reigns_61 (in_lit rfl) ?_
        exact j_iret C dX6_reigns_62 h
      · replace h := h.2 c7
        refine j_bipush (v := (-3 : Int32)) C dX6_reigns_39 (by decide) ?_
        exact j_iret C dX6_reigns_41 h
    · replace h := h.2 c6
      refine j_bipush (v := (-2 : Int32)) C dX6_reigns_21 (by decide) ?_
      exact j_iret C dX6_reigns_23 h
  · replace h := h.2 c3
    refine j_iconst (v := (-1 : Int32)) C dX6_reigns_12 (by decide) ?_
    exact j_iret C dX6_reigns_13 h
def wp_X6_isFar (a0 : Int32) (σ : Mem) (Q : Int32 → Mem → Prop) : Prop :=
  wp_X6_in ((a0).toInt64) (0 : Int64) (60 : Int64) σ (fun r2 σ1 => (r2 = 0 ∨ r2 = 1) ∧ Q r2 σ1)
def rmX6_isFar : Room := { frames := 1, cells := 0, slots := 0, locals := 25 }
theorem hdX6_isFar : yX6_isFar.cls = RX6 ∧ yX6_isFar.cls ≠ "java/lang/invoke/MethodHandle" ∧ yX6_isFar.cls ≠ "java/lang/invoke/VarHandle" ∧ (parseMethodDescriptor yX6_isFar.desc).map (fun d => d.parameters.length) = some 1 := by decide +kernel
set_option maxHeartbeats 4000000 in
set_option maxRecDepth 100000 in
theorem c_X6_isFar {l : Launch} {E : EE} {a0 : Int32}  {σ : Mem} {Q : Int32 → Mem → Prop} (h : wp_X6_isFar a0 σ Q) : CtI l yX6_isFar wsX6_isFar rmX6_isFar E [.int a0] σ Q := by
  refine metI (cc := cX6_isFar) (nL := 1) (ret := (some .boolean)) (lv := [(0, .int a0)]) (by decide) rfl (Nat.le_of_ble_eq_true rfl) rfl ?_
  intro p e s m args below meth c C
  unfold wp_X6_isFar at h
  refine j_iload_n C 0 dX6_isFar_0 rfl 0 rfl ?_
  refine j_i2l C dX6_isFar_1 rfl ?_
  refine j_lconst (v := (0 : Int64)) C dX6_isFar_2 (by decide) ?_
  refine j_ldc2 C (60 : Int64) dX6_isFar_3 (by decide +kernel) ?_
  refine j_callSI (As := [.long (a0).toInt64, .long (0 : Int64), .long (60 : Int64)]) (rest := []) C (c_X6_in h) (va_cwS 3 C.2.2.2.2.2.1 gX6_isFar_X6_in rfl rfl rfl hdX6_in.2 ⟨Nat.le_of_ble_eq_true rfl, Nat.le_of_ble_eq_true rfl⟩) rfl rfl (Nat.le_of_ble_eq_true rfl) dX6_isFar_6 (fun r2 σ1 h => ?_)
  exact j_zret C dX6_isFar_9 h.1 h.2
def wp_X6_runs (a1 : Int32) (a2 : Int32) (σ : Mem) (Q : Int32 → Mem → Prop) : Prop :=
  ∀ (P47 : Int32 → Int32 → Mem → Prop) (P76 : Int32 → Int32 → Mem → Prop) (P77 : Int32 → Int32 → Mem → Prop),
  (∀ (x3 : Int32) (x4 : Int32) (σ : Mem), ((a1 < x4 → (a2 = (0 : Int32) → Q (σ.1 66 ((32 : Int32)).toNatClampNeg) σ) ∧ (a2 = (1 : Int32) → Q ((σ.1 66 ((34 : Int32)).toNatClampNeg) - (σ.1 65 ((34 : Int32)).toNatClampNeg)) σ) ∧ (a2 = (2 : Int32) → Q ((σ.1 66 ((35 : Int32)).toNatClampNeg) - (σ.1 65 ((35 : Int32)).toNatClampNeg)) σ) ∧ (a2 = (3 : Int32) → Q x3 σ) ∧ (¬ a2 = (0 : Int32) → ¬ a2 = (1 : Int32) → ¬ a2 = (2 : Int32) → ¬ a2 = (3 : Int32) → Q (σ.1 64 17) σ)) ∧ (¬ a1 < x4 → wp_X6_reignGoes (0 : Int32) σ (fun σ6 => ((σ6.1 64 19) = 0 → P76 x3 x4 σ6) ∧ (¬ (σ6.1 64 19) = 0 → (¬ x3 = (-4 : Int32) → P76 x3 x4 σ6) ∧ (x3 = (-4 : Int32) → P77 x4 x4 σ6))))) → P47 x3 x4 σ) →
  (∀ (x3 : Int32) (x4 : Int32) (σ : Mem), (P77 x4 x3 σ) → P76 x3 x4 σ) →
  (∀ (x4 : Int32) (s0 : Int32) (σ : Mem), (∀ v9 : Int32, v9 = x4 + (1 : Int32) → P47 s0 v9 σ) → P77 x4 s0 σ) →
  wp_X6_isFar a1 σ (fun r11 σ10 => (r11 = 0 → Q (-1 : Int32) σ10) ∧ (¬ r11 = 0 → wp_X6_in ((a2).toInt64) (0 : Int64) (4 : Int64) σ10 (fun r14 σ13 => (¬ r14 = 0 → wp_X6_areTwo σ13 (fun r17 σ16 => (¬ r17 = 0 → wp_X6_starts σ16 (fun σ19 => ∀ σ20 : Mem, σ20 = st1 σ19 64 17 (-4 : Int32) → P47 (-4 : Int32) (1 : Int32) σ20)) ∧ (r17 = 0 → Q (-2 : Int32) σ16))) ∧ (r14 = 0 → Q (-1 : Int32) σ13))))
theorem in_X6_runs_X6 : ∀ w ∈ wsX60, w ∈ wsX6_runs := fun _ h => List.mem_cons_of_mem _ (List.mem_append_right _ h)
def rmX6_runs : Room := { frames := 3, cells := 0, slots := 0, locals := 67 }
theorem hdX6_runs : yX6_runs.cls = RX6 ∧ yX6_runs.cls ≠ "java/lang/invoke/MethodHandle" ∧ yX6_runs.cls ≠ "java/lang/invoke/VarHandle" ∧ (parseMethodDescriptor yX6_runs.desc).map (fun d => d.parameters.length) = some 2 := by decide +kernel
set_option maxHeartbeats 4000000 in
set_option maxRecDepth 100000 in
theorem c_X6_runs {l : Launch} {E : EE} {a1 : Int32} {a2 : Int32}  {σ : Mem} {Q : Int32 → Mem → Prop} (h : wp_X6_runs a1 a2 σ Q) : CtI l yX6_runs wsX6_runs rmX6_runs E [.ref (eA E 64), .int a1, .int a2] σ Q := by
  refine metI (cc := cX6_runs) (nL := 5) (ret := (some .int)) (lv := [(0, .ref (eA E 64)), (1, .int a1), (2, .int a2)]) (by decide) rfl (Nat.le_of_ble_eq_true rfl) rfl ?_
  intro p e s m args below meth c C
  unfold wp_X6_runs at h
  replace h := h (fun (x3 : Int32) (x4 : Int32) (σ : Mem) => J E p l e rmX6_runs s m args below meth c (QI E below args s Q) 5 47 [(0, .ref (eA E 64)), (1, .int a1), (2, .int a2), (3, .int x3), (4, .int x4)] [] σ) (fun (x3 : Int32) (x4 : Int32) (σ : Mem) => J E p l e rmX6_runs s m args below meth c (QI E below args s Q) 5 76 [(0, .ref (eA E 64)), (1, .int a1), (2, .int a2), (3, .int x3), (4, .int x4)] [] σ) (fun (x4 : Int32) (s0 : Int32) (σ : Mem) => J E p l e rmX6_runs s m args below meth c (QI E below args s Q) 5 77 [(0, .ref (eA E 64)), (1, .int a1), (2, .int a2), (4, .int x4)] [.int s0] σ) (by
    intro x3 x4 σ h
    refine j_iload C 4 dX6_runs_47 4 rfl ?_
    refine j_iload_n C 1 dX6_runs_49 rfl 1 rfl ?_
    refine j_icmp_gt C 84 dX6_runs_50 (by decide) (fun c1 => ?_) (fun c1 => ?_)
    · replace h := h.1 c1
      refine j_iload_n C 2 dX6_runs_84 rfl 2 rfl ?_
      by_cases c2 : a2 = (0 : Int32)
      · replace h := h.1 c2
        refine j_tabIn (off := 31) C 116 dX6_runs_85 (0 : Int32) c2 (by decide) (by decide) (by decide) (by decide) ?_
        refine j_aload_n C 0 dX6_runs_116 rfl 0 rfl ?_
        refine j_getR C 66 64 1 rfl rfl rfl in_X6_runs_X6 (by decide) (by decide +kernel) dX6_runs_117 ?_
        refine j_bipush (v := (32 : Int32)) C dX6_runs_120 (by decide) ?_
        refine j_iald C 66 rfl dX6_runs_122 (in_lit rfl) ?_
        exact j_iret C dX6_runs_123 h
      by_cases c3 : a2 = (1 : Int32)
      · replace h := h.2.1 c3
        refine j_tabIn (off := 39) C 124 dX6_runs_85 (1 : Int32) c3 (by decide) (by decide) (by decide) (by decide) ?_
        refine j_aload_n C 0 dX6_runs_124 rfl 0 rfl ?_
        refine j_getR C 66 64 1 rfl rfl rfl in_X6_runs_X6 (by decide) (by decide +kernel) dX6_runs_125 ?_
        refine j_bipush (v := (34 : Int32)) C dX6_runs_128 (by decide) ?_
        refine j_iald C 66 rfl dX6_runs_130 (in_lit rfl) ?_
        refine j_aload_n C 0 dX6_runs_131 rfl 0 rfl ?_
        refine j_getR C 65 64 0 rfl rfl rfl in_X6_runs_X6 (by decide) (by decide +kernel) dX6_runs_132 ?_
        refine j_bipush (v := (34 : Int32)) C dX6_runs_135 (by decide) ?_
        refine j_iald C 65 rfl dX6_runs_137 (in_lit rfl) ?_
        refine j_isub C dX6_runs_138 ?_
        exact j_iret C dX6_runs_139 h
      by_cases c4 : a2 = (2 : Int32)
      · replace h := h.2.2.1 c4
        refine j_tabIn (off := 55) C 140 dX6_runs_85 (2 : Int32) c4 (by decide) (by decide) (by decide) (by decide) ?_
        refine j_aload_n C 0 dX6_runs_140 rfl 0 rfl ?_
        refine j_getR C 66 64 1 rfl rfl rfl in_X6_runs_X6 (by decide) (by decide +kernel) dX6_runs_141 ?_
        refine j_bipush (v := (35 : Int32)) C dX6_runs_144 (by decide) ?_
        refine j_iald C 66 rfl dX6_runs_146 (in_lit rfl) ?_
        refine j_aload_n C 0 dX6_runs_147 rfl 0 rfl ?_
        refine j_getR C 65 64 0 rfl rfl rfl in_X6_runs_X6 (by decide) (by decide +kernel) dX6_runs_148 ?_
        refine j_bipush (v := (35 : Int32)) C dX6_runs_151 (by decide) ?_
        refine j_iald C 65 rfl dX6_runs_153 (in_lit rfl) ?_
        refine j_isub C dX6_runs_154 ?_
        exact j_iret C dX6_runs_155 h
      by_cases c5 : a2 = (3 : Int32)
      · replace h := h.2.2.2.1 c5
        refine j_tabIn (off := 71) C 156 dX6_runs_85 (3 : Int32) c5 (by decide) (by decide) (by decide) (by decide) ?_
        refine j_iload_n C 3 dX6_runs_156 rfl 3 rfl ?_
        exact j_iret C dX6_runs_157 h
      replace h := h.2.2.2.2 c2 c3 c4 c5
      refine j_tabOut C 158 dX6_runs_85 (tab_out (lo := 0) (hi := 3) (fun v h1 h2 => by rcases (show v = 0 ∨ v = 1 ∨ v = 2 ∨ v = 3 by omega) with rfl | rfl | rfl | rfl <;> assumption)) (by decide) ?_
      refine j_aload_n C 0 dX6_runs_158 rfl 0 rfl ?_
      refine j_getI C 64 17 rfl rfl rfl in_X6_runs_X6 (by decide) (by decide +kernel) dX6_runs_159 ?_
      exact j_iret C dX6_runs_162 h
    · replace h := h.2 c1
      refine j_aload_n C 0 dX6_runs_53 rfl 0 rfl ?_
      refine j_iconst (v := (0 : Int32)) C dX6_runs_54 (by decide) ?_
      refine j_callVV (As := [.int (0 : Int32)]) (rest := []) C 64 (c_X6_reignGoes h) (cwV 1 C.2.2.2.2.2.1 gX6_runs_X6_reignGoes rfl rfl rfl hdX6_reignGoes ⟨Nat.le_of_ble_eq_true rfl, Nat.le_of_ble_eq_true rfl⟩) rfl rfl rfl rfl (Nat.le_of_ble_eq_true rfl) dX6_runs_55 (fun σ6 h => ?_)
      refine j_aload_n C 0 dX6_runs_58 rfl 0 rfl ?_
      refine j_getI C 64 19 rfl rfl rfl in_X6_runs_X6 (by decide) (by decide +kernel) dX6_runs_59 ?_
      refine j_if_eq C 76 dX6_runs_62 (by decide) (fun c7 => ?_) (fun c7 => ?_)
      · replace h := h.1 c7
        exact j_sub (lv' := [(0, .ref (eA E 64)), (1, .int a1), (2, .int a2), (3, .int x3), (4, .int x4)]) [0, 1, 2, 3, 4] rfl h
      · replace h := h.2 c7
        refine j_iload_n C 3 dX6_runs_65 rfl 3 rfl ?_
        refine j_bipush (v := (-4 : Int32)) C dX6_runs_66 (by decide) ?_
        refine j_icmp_ne C 76 dX6_runs_68 (by decide) (fun c8 => ?_) (fun c8 => ?_)
        · replace h := h.1 c8
          exact j_sub (lv' := [(0, .ref (eA E 64)), (1, .int a1), (2, .int a2), (3, .int x3), (4, .int x4)]) [0, 1, 2, 3, 4] rfl h
        · replace h := h.2 c8
          refine j_iload C 4 dX6_runs_71 4 rfl ?_
          refine j_goto C 77 dX6_runs_73 (by decide) ?_
          exact j_sub (lv' := [(0, .ref (eA E 64)), (1, .int a1), (2, .int a2), (4, .int x4)]) [0, 1, 2, 4] rfl h) (by
    intro x3 x4 σ h
    refine j_iload_n C 3 dX6_runs_76 rfl 3 rfl ?_
    exact j_sub (lv' := [(0, .ref (eA E 64)), (1, .int a1), (2, .int a2), (4, .int x4)]) [0, 1, 2, 4] rfl h) (by
    intro x4 s0 σ h
    refine j_istore_n (lv' := [(3, .int s0), (0, .ref (eA E 64)), (1, .int a1), (2, .int a2), (4, .int x4)]) C 3 dX6_runs_77 rfl (by decide) rfl ?_
    obtain ⟨v9, ev9⟩ : ∃ y : Int32, y = x4 + (1 : Int32) := ⟨_, rfl⟩
    replace h := h v9 ev9
    refine j_iinc (v := v9) (lv' := [(4, .int v9), (3, .int s0), (0, .ref (eA E 64)), (1, .int a1), (2, .int a2)]) C 4 dX6_runs_78 4 rfl (by rw [ev9]; rfl) (by decide) rfl ?_
    refine j_goto C 47 dX6_runs_81 (by decide) ?_
    exact j_sub (lv' := [(0, .ref (eA E 64)), (1, .int a1), (2, .int a2), (3, .int s0), (4, .int v9)]) [2, 3, 4, 1, 0] rfl h)
  refine j_iload_n C 1 dX6_runs_0 rfl 1 rfl ?_
  refine j_callSI (As := [.int a1]) (rest := []) C (c_X6_isFar h) (va_cwS 1 C.2.2.2.2.2.1 gX6_runs_X6_isFar rfl rfl rfl hdX6_isFar.2 ⟨Nat.le_of_ble_eq_true rfl, Nat.le_of_ble_eq_true rfl⟩) rfl rfl (Nat.le_of_ble_eq_true rfl) dX6_runs_1 (fun r11 σ10 h => ?_)
  refine j_if_eq C 19 dX6_runs_4 (by decide) (fun c12 => ?_) (fun c12 => ?_)
  · replace h := h.1 c12
    refine j_iconst (v := (-1 : Int32)) C dX6_runs_19 (by decide) ?_
    exact j_iret C dX6_runs_20 h
  · replace h := h.2 c12
    refine j_iload_n C 2 dX6_runs_7 rfl 2 rfl ?_
    refine j_i2l C dX6_runs_8 rfl ?_
    refine j_lconst (v := (0 : Int64)) C dX6_runs_9 (by decide) ?_
    refine j_ldc2 C (4 : Int64) dX6_runs_10 (by decide +kernel) ?_
    refine j_callSI (As := [.long (a2).toInt64, .long (0 : Int64), .long (4 : Int64)]) (rest := []) C (c_X6_in h) (va_cwS 3 C.2.2.2.2.2.1 gX6_runs_X6_in rfl rfl rfl hdX6_in.2 ⟨Nat.le_of_ble_eq_true rfl, Nat.le_of_ble_eq_true rfl⟩) rfl rfl (Nat.le_of_ble_eq_true rfl) dX6_runs_13 (fun r14 σ13 h => ?_)
    refine j_if_ne C 21 dX6_runs_16 (by decide) (fun c15 => ?_) (fun c15 => ?_)
    · replace h := h.1 c15
      refine j_aload_n C 0 dX6_runs_21 rfl 0 rfl ?_
      refine j_callVI (As := []) (rest := []) C 64 (c_X6_areTwo h) (cwV 0 C.2.2.2.2.2.1 gX6_runs_X6_areTwo rfl rfl rfl hdX6_areTwo ⟨Nat.le_of_ble_eq_true rfl, Nat.le_of_ble_eq_true rfl⟩) rfl rfl rfl rfl (Nat.le_of_ble_eq_true rfl) dX6_runs_22 (fun r17 σ16 h => ?_)
      refine j_if_ne C 31 dX6_runs_25 (by decide) (fun c18 => ?_) (fun c18 => ?_)
      · replace h := h.1 c18
        refine j_bipush (v := (-4 : Int32)) C dX6_runs_31 (by decide) ?_
        refine j_istore_n (lv' := [(3, .int (-4 : Int32)), (0, .ref (eA E 64)), (1, .int a1), (2, .int a2)]) C 3 dX6_runs_33 rfl (by decide) rfl ?_
        refine j_aload_n C 0 dX6_runs_34 rfl 1 rfl ?_
        refine j_callVV (As := []) (rest := []) C 64 (c_X6_starts h) (cwV 0 C.2.2.2.2.2.1 gX6_runs_X6_starts rfl rfl rfl hdX6_starts ⟨Nat.le_of_ble_eq_true rfl, Nat.le_of_ble_eq_true rfl⟩) rfl rfl rfl rfl (Nat.le_of_ble_eq_true rfl) dX6_runs_35 (fun σ19 h => ?_)
        refine j_aload_n C 0 dX6_runs_38 rfl 1 rfl ?_
        refine j_bipush (v := (-4 : Int32)) C dX6_runs_39 (by decide) ?_
        refine j_put C 64 17 rfl rfl rfl in_X6_runs_X6 tyX6 tyX6_ok nmX6 (by decide) (by decide +kernel) rfl rfl rfl rfl dX6_runs_41 ?_
        refine j_mem (fun σ20 eσ20 => ?_)
        replace h := h σ20 eσ20
        refine j_iconst (v := (1 : Int32)) C dX6_runs_44 (by decide) ?_
        refine j_istore (lv' := [(4, .int (1 : Int32)), (3, .int (-4 : Int32)), (0, .ref (eA E 64)), (1, .int a1), (2, .int a2)]) C 4 dX6_runs_45 (by decide) rfl ?_
        exact j_sub (lv' := [(0, .ref (eA E 64)), (1, .int a1), (2, .int a2), (3, .int (-4 : Int32)), (4, .int (1 : Int32))]) [2, 3, 4, 1, 0] rfl h
      · replace h := h.2 c18
        refine j_bipush (v := (-2 : Int32)) C dX6_runs_28 (by decide) ?_
        exact j_iret C dX6_runs_30 h
    · replace h := h.2 c15
      refine j_iconst (v := (-1 : Int32)) C dX6_runs_19 (by decide) ?_
      exact j_iret C dX6_runs_20 h
def wp_X6_ahead (a1 : Int32) (a2 : Int32) (a3 : Int32) (σ : Mem) (Q : Int32 → Mem → Prop) : Prop :=
  ∀ (P49 : Int32 → Int32 → Mem → Prop) (P78 : Int32 → Int32 → Int32 → Mem → Prop),
  (∀ (x4 : Int32) (x5 : Int32) (σ : Mem), ((a2 ≤ x5 → (¬ a3 = 0 → (¬ a3 = (1 : Int32) → Q x4 σ) ∧ (a3 = (1 : Int32) → wp_X6_placeOf a1 σ (fun r5 σ4 => Q r5 σ4))) ∧ (a3 = 0 → wp_X6_of a1 (1 : Int32) σ (fun r7 σ6 => Q r7 σ6))) ∧ (¬ a2 ≤ x5 → wp_X6_reignGoes (0 : Int32) σ (fun σ8 => (¬ (σ8.1 64 17) = a1 → P78 x5 (0 : Int32) x4 σ8) ∧ ((σ8.1 64 17) = a1 → P78 x5 ((σ8.1 64 18)) x4 σ8)))) → P49 x4 x5 σ) →
  (∀ (x5 : Int32) (s0 : Int32) (s1 : Int32) (σ : Mem), (∀ v10 : Int32, v10 = (s1 + s0) → ∀ v11 : Int32, v11 = x5 + (1 : Int32) → P49 v10 v11 σ) → P78 x5 s0 s1 σ) →
  wp_X6_isHeir a1 σ (fun r13 σ12 => (r13 = 0 → Q (-1 : Int32) σ12) ∧ (¬ r13 = 0 → wp_X6_isFar a2 σ12 (fun r16 σ15 => (r16 = 0 → Q (-1 : Int32) σ15) ∧ (¬ r16 = 0 → wp_X6_in ((a3).toInt64) (0 : Int64) (2 : Int64) σ15 (fun r19 σ18 => (¬ r19 = 0 → wp_X6_areTwo σ18 (fun r22 σ21 => (¬ r22 = 0 → wp_X6_starts σ21 (fun σ24 => P49 (0 : Int32) (0 : Int32) σ24)) ∧ (r22 = 0 → Q (-2 : Int32) σ21))) ∧ (r19 = 0 → Q (-1 : Int32) σ18))))))
theorem in_X6_ahead_X6 : ∀ w ∈ wsX60, w ∈ wsX6_ahead := fun _ h => List.mem_cons_of_mem _ (List.mem_append_right _ h)
def rmX6_ahead : Room := { frames := 3, cells := 0, slots := 0, locals := 67 }
theorem hdX6_ahead : yX6_ahead.cls = RX6 ∧ yX6_ahead.cls ≠ "java/lang/invoke/MethodHandle" ∧ yX6_ahead.cls ≠ "java/lang/invoke/VarHandle" ∧ (parseMethodDescriptor yX6_ahead.desc).map (fun d => d.parameters.length) = some 3 := by decide +kernel
set_option maxHeartbeats 4000000 in
set_option maxRecDepth 100000 in
theorem c_X6_ahead {l : Launch} {E : EE} {a1 : Int32} {a2 : Int32} {a3 : Int32}  {σ : Mem} {Q : Int32 → Mem → Prop} (h : wp_X6_ahead a1 a2 a3 σ Q) : CtI l yX6_ahead wsX6_ahead rmX6_ahead E [.ref (eA E 64), .int a1, .int a2, .int a3] σ Q := by
  refine metI (cc := cX6_ahead) (nL := 6) (ret := (some .int)) (lv := [(0, .ref (eA E 64)), (1, .int a1), (2, .int a2), (3, .int a3)]) (by decide) rfl (Nat.le_of_ble_eq_true rfl) rfl ?_
  intro p e s m args below meth c C
  unfold wp_X6_ahead at h
  replace h := h (fun (x4 : Int32) (x5 : Int32) (σ : Mem) => J E p l e rmX6_ahead s m args below meth c (QI E below args s Q) 6 49 [(0, .ref (eA E 64)), (1, .int a1), (2, .int a2), (3, .int a3), (4, .int x4), (5, .int x5)] [] σ) (fun (x5 : Int32) (s0 : Int32) (s1 : Int32) (σ : Mem) => J E p l e rmX6_ahead s m args below meth c (QI E below args s Q) 6 78 [(0, .ref (eA E 64)), (1, .int a1), (2, .int a2), (3, .int a3), (5, .int x5)] [.int s0, .int s1] σ) (by
    intro x4 x5 σ h
    refine j_iload C 5 dX6_ahead_49 5 rfl ?_
    refine j_iload_n C 2 dX6_ahead_51 rfl 2 rfl ?_
    refine j_icmp_ge C 87 dX6_ahead_52 (by decide) (fun c1 => ?_) (fun c1 => ?_)
    · replace h := h.1 c1
      refine j_iload_n C 3 dX6_ahead_87 rfl 3 rfl ?_
      refine j_if_ne C 100 dX6_ahead_88 (by decide) (fun c2 => ?_) (fun c2 => ?_)
      · replace h := h.1 c2
        refine j_iload_n C 3 dX6_ahead_100 rfl 3 rfl ?_
        refine j_iconst (v := (1 : Int32)) C dX6_ahead_101 (by decide) ?_
        refine j_icmp_ne C 113 dX6_ahead_102 (by decide) (fun c3 => ?_) (fun c3 => ?_)
        · replace h := h.1 c3
          refine j_iload C 4 dX6_ahead_113 4 rfl ?_
          exact j_iret C dX6_ahead_115 h
        · replace h := h.2 c3
          refine j_aload_n C 0 dX6_ahead_105 rfl 0 rfl ?_
          refine j_iload_n C 1 dX6_ahead_106 rfl 1 rfl ?_
          refine j_callVI (As := [.int a1]) (rest := []) C 64 (c_X6_placeOf h) (cwV 1 C.2.2.2.2.2.1 gX6_ahead_X6_placeOf rfl rfl rfl hdX6_placeOf ⟨Nat.le_of_ble_eq_true rfl, Nat.le_of_ble_eq_true rfl⟩) rfl rfl rfl rfl (Nat.le_of_ble_eq_true rfl) dX6_ahead_107 (fun r5 σ4 h => ?_)
          refine j_goto C 115 dX6_ahead_110 (by decide) ?_
          exact j_iret C dX6_ahead_115 h
      · replace h := h.2 c2
        refine j_aload_n C 0 dX6_ahead_91 rfl 0 rfl ?_
        refine j_iload_n C 1 dX6_ahead_92 rfl 1 rfl ?_
        refine j_iconst (v := (1 : Int32)) C dX6_ahead_93 (by decide) ?_
        refine j_callVI (As := [.int a1, .int (1 : Int32)]) (rest := []) C 64 (c_X6_of h) (cwV 2 C.2.2.2.2.2.1 gX6_ahead_X6_of rfl rfl rfl hdX6_of ⟨Nat.le_of_ble_eq_true rfl, Nat.le_of_ble_eq_true rfl⟩) rfl rfl rfl rfl (Nat.le_of_ble_eq_true rfl) dX6_ahead_94 (fun r7 σ6 h => ?_)
        refine j_goto C 115 dX6_ahead_97 (by decide) ?_
        exact j_iret C dX6_ahead_115 h
    · replace h := h.2 c1
      refine j_aload_n C 0 dX6_ahead_55 rfl 0 rfl ?_
      refine j_iconst (v := (0 : Int32)) C dX6_ahead_56 (by decide) ?_
      refine j_callVV (As := [.int (0 : Int32)]) (rest := []) C 64 (c_X6_reignGoes h) (cwV 1 C.2.2.2.2.2.1 gX6_ahead_X6_reignGoes rfl rfl rfl hdX6_reignGoes ⟨Nat.le_of_ble_eq_true rfl, Nat.le_of_ble_eq_true rfl⟩) rfl rfl rfl rfl (Nat.le_of_ble_eq_true rfl) dX6_ahead_57 (fun σ8 h => ?_)
      refine j_iload C 4 dX6_ahead_60 4 rfl ?_
      refine j_aload_n C 0 dX6_ahead_62 rfl 0 rfl ?_
      refine j_getI C 64 17 rfl rfl rfl in_X6_ahead_X6 (by decide) (by decide +kernel) dX6_ahead_63 ?_
      refine j_iload_n C 1 dX6_ahead_66 rfl 1 rfl ?_
      refine j_icmp_ne C 77 dX6_ahead_67 (by decide) (fun c9 => ?_) (fun c9 => ?_)
      · replace h := h.1 c9
        refine j_iconst (v := (0 : Int32)) C dX6_ahead_77 (by decide) ?_
        exact j_sub (lv' := [(0, .ref (eA E 64)), (1, .int a1), (2, .int a2), (3, .int a3), (5, .int x5)]) [0, 1, 2, 3, 5] rfl h
      · replace h := h.2 c9
        refine j_aload_n C 0 dX6_ahead_70 rfl 0 rfl ?_
        refine j_getI C 64 18 rfl rfl rfl in_X6_ahead_X6 (by decide) (by decide +kernel) dX6_ahead_71 ?_
        refine j_goto C 78 dX6_ahead_74 (by decide) ?_
        exact j_sub (lv' := [(0, .ref (eA E 64)), (1, .int a1), (2, .int a2), (3, .int a3), (5, .int x5)]) [0, 1, 2, 3, 5] rfl h) (by
    intro x5 s0 s1 σ h
    refine j_iadd C dX6_ahead_78 ?_
    refine j_topi (fun v10 ev10 => ?_)
    replace h := h v10 ev10
    refine j_istore (lv' := [(4, .int v10), (0, .ref (eA E 64)), (1, .int a1), (2, .int a2), (3, .int a3), (5, .int x5)]) C 4 dX6_ahead_79 (by decide) rfl ?_
    obtain ⟨v11, ev11⟩ : ∃ y : Int32, y = x5 + (1 : Int32) := ⟨_, rfl⟩
    replace h := h v11 ev11
    refine j_iinc (v := v11) (lv' := [(5, .int v11), (4, .int v10), (0, .ref (eA E 64)), (1, .int a1), (2, .int a2), (3, .int a3)]) C 5 dX6_ahead_81 5 rfl (by rw [ev11]; rfl) (by decide) rfl ?_
    refine j_goto C 49 dX6_ahead_84 (by decide) ?_
    exact j_sub (lv' := [(0, .ref (eA E 64)), (1, .int a1), (2, .int a2), (3, .int a3), (4, .int v10), (5, .int v11)]) [2, 3, 4, 5, 1, 0] rfl h)
  refine j_aload_n C 0 dX6_ahead_0 rfl 0 rfl ?_
  refine j_iload_n C 1 dX6_ahead_1 rfl 1 rfl ?_
  refine j_callVI (As := [.int a1]) (rest := []) C 64 (c_X6_isHeir h) (cwV 1 C.2.2.2.2.2.1 gX6_ahead_X6_isHeir rfl rfl rfl hdX6_isHeir ⟨Nat.le_of_ble_eq_true rfl, Nat.le_of_ble_eq_true rfl⟩) rfl rfl rfl rfl (Nat.le_of_ble_eq_true rfl) dX6_ahead_2 (fun r13 σ12 h => ?_)
  refine j_if_eq C 27 dX6_ahead_5 (by decide) (fun c14 => ?_) (fun c14 => ?_)
  · replace h := h.1 c14
    refine j_iconst (v := (-1 : Int32)) C dX6_ahead_27 (by decide) ?_
    exact j_iret C dX6_ahead_28 h
  · replace h := h.2 c14
    refine j_iload_n C 2 dX6_ahead_8 rfl 2 rfl ?_
    refine j_callSI (As := [.int a2]) (rest := []) C (c_X6_isFar h) (va_cwS 1 C.2.2.2.2.2.1 gX6_ahead_X6_isFar rfl rfl rfl hdX6_isFar.2 ⟨Nat.le_of_ble_eq_true rfl, Nat.le_of_ble_eq_true rfl⟩) rfl rfl (Nat.le_of_ble_eq_true rfl) dX6_ahead_9 (fun r16 σ15 h => ?_)
    refine j_if_eq C 27 dX6_ahead_12 (by decide) (fun c17 => ?_) (fun c17 => ?_)
    · replace h := h.1 c17
      refine j_iconst (v := (-1 : Int32)) C dX6_ahead_27 (by decide) ?_
      exact j_iret C dX6_ahead_28 h
    · replace h := h.2 c17
      refine j_iload_n C 3 dX6_ahead_15 rfl 3 rfl ?_
      refine j_i2l C dX6_ahead_16 rfl ?_
      refine j_lconst (v := (0 : Int64)) C dX6_ahead_17 (by decide) ?_
      refine j_ldc2 C (2 : Int64) dX6_ahead_18 (by decide +kernel) ?_
      refine j_callSI (As := [.long (a3).toInt64, .long (0 : Int64), .long (2 : Int64)]) (rest := []) C (c_X6_in h) (va_cwS 3 C.2.2.2.2.2.1 gX6_ahead_X6_in rfl rfl rfl hdX6_in.2 ⟨Nat.le_of_ble_eq_true rfl, Nat.le_of_ble_eq_true rfl⟩) rfl rfl (Nat.le_of_ble_eq_true rfl) dX6_ahead_21 (fun r19 σ18 h => ?_)
      refine j_if_ne C 29 dX6_ahead_24 (by decide) (fun c20 => ?_) (fun c20 => ?_)
      · replace h := h.1 c20
        refine j_aload_n C 0 dX6_ahead_29 rfl 0 rfl ?_
        refine j_callVI (As := []) (rest := []) C 64 (c_X6_areTwo h) (cwV 0 C.2.2.2.2.2.1 gX6_ahead_X6_areTwo rfl rfl rfl hdX6_areTwo ⟨Nat.le_of_ble_eq_true rfl, Nat.le_of_ble_eq_true rfl⟩) rfl rfl rfl rfl (Nat.le_of_ble_eq_true rfl) dX6_ahead_30 (fun r22 σ21 h => ?_)
        refine j_if_ne C 39 dX6_ahead_33 (by decide) (fun c23 => ?_) (fun c23 => ?_)
        · replace h := h.1 c23
          refine j_iconst (v := (0 : Int32)) C dX6_ahead_39 (by decide) ?_
          refine j_istore (lv' := [(4, .int (0 : Int32)), (0, .ref (eA E 64)), (1, .int a1), (2, .int a2), (3, .int a3)]) C 4 dX6_ahead_40 (by decide) rfl ?_
          refine j_aload_n C 0 dX6_ahead_42 rfl 1 rfl ?_
          refine j_callVV (As := []) (rest := []) C 64 (c_X6_starts h) (cwV 0 C.2.2.2.2.2.1 gX6_ahead_X6_starts rfl rfl rfl hdX6_starts ⟨Nat.le_of_ble_eq_true rfl, Nat.le_of_ble_eq_true rfl⟩) rfl rfl rfl rfl (Nat.le_of_ble_eq_true rfl) dX6_ahead_43 (fun σ24 h => ?_)
          refine j_iconst (v := (0 : Int32)) C dX6_ahead_46 (by decide) ?_
          refine j_istore (lv' := [(5, .int (0 : Int32)), (4, .int (0 : Int32)), (0, .ref (eA E 64)), (1, .int a1), (2, .int a2), (3, .int a3)]) C 5 dX6_ahead_47 (by decide) rfl ?_
          exact j_sub (lv' := [(0, .ref (eA E 64)), (1, .int a1), (2, .int a2), (3, .int a3), (4, .int (0 : Int32)), (5, .int (0 : Int32))]) [2, 3, 4, 5, 1, 0] rfl h
        · replace h := h.2 c23
          refine j_bipush (v := (-2 : Int32)) C dX6_ahead_36 (by decide) ?_
          exact j_iret C dX6_ahead_38 h
      · replace h := h.2 c20
        refine j_iconst (v := (-1 : Int32)) C dX6_ahead_27 (by decide) ?_
        exact j_iret C dX6_ahead_28 h
def wp_X6_reignOf (a1 : Int32) (σ : Mem) (Q : Int32 → Mem → Prop) : Prop :=
  ∀ (P2 : Int32 → Mem → Prop),
  (∀ (x2 : Int32) (σ : Mem), (((60 : Int32) < x2 → Q (-4 : Int32) σ) ∧ (¬ (60 : Int32) < x2 → wp_X6_reignGoes (0 : Int32) σ (fun σ2 => (¬ (σ2.1 64 17) = a1 → ∀ v4 : Int32, v4 = x2 + (1 : Int32) → P2 v4 σ2) ∧ ((σ2.1 64 17) = a1 → Q x2 σ2)))) → P2 x2 σ) →
  P2 (1 : Int32) σ
theorem in_X6_reignOf_X6 : ∀ w ∈ wsX60, w ∈ wsX6_reignOf := fun _ h => List.mem_cons_of_mem _ (List.mem_append_right _ h)
def rmX6_reignOf : Room := { frames := 3, cells := 0, slots := 0, locals := 67 }
theorem hdX6_reignOf : yX6_reignOf.cls = RX6 ∧ yX6_reignOf.cls ≠ "java/lang/invoke/MethodHandle" ∧ yX6_reignOf.cls ≠ "java/lang/invoke/VarHandle" ∧ (parseMethodDescriptor yX6_reignOf.desc).map (fun d => d.parameters.length) = some 1 := by decide +kernel
set_option maxHeartbeats 4000000 in
set_option maxRecDepth 100000 in
theorem c_X6_reignOf {l : Launch} {E : EE} {a1 : Int32}  {σ : Mem} {Q : Int32 → Mem → Prop} (h : wp_X6_reignOf a1 σ Q) : CtI l yX6_reignOf wsX6_reignOf rmX6_reignOf E [.ref (eA E 64), .int a1] σ Q := by
  refine metI (cc := cX6_reignOf) (nL := 3) (ret := (some .int)) (lv := [(0, .ref (eA E 64)), (1, .int a1)]) (by decide) rfl (Nat.le_of_ble_eq_true rfl) rfl ?_
  intro p e s m args below meth c C
  unfold wp_X6_reignOf at h
  replace h := h (fun (x2 : Int32) (σ : Mem) => J E p l e rmX6_reignOf s m args below meth c (QI E below args s Q) 3 2 [(0, .ref (eA E 64)), (1, .int a1), (2, .int x2)] [] σ) (by
    intro x2 σ h
    refine j_iload_n C 2 dX6_reignOf_2 rfl 2 rfl ?_
    refine j_bipush (v := (60 : Int32)) C dX6_reignOf_3 (by decide) ?_
    refine j_icmp_gt C 29 dX6_reignOf_5 (by decide) (fun c1 => ?_) (fun c1 => ?_)
    · replace h := h.1 c1
      refine j_bipush (v := (-4 : Int32)) C dX6_reignOf_29 (by decide) ?_
      exact j_iret C dX6_reignOf_31 h
    · replace h := h.2 c1
      refine j_aload_n C 0 dX6_reignOf_8 rfl 0 rfl ?_
      refine j_iconst (v := (0 : Int32)) C dX6_reignOf_9 (by decide) ?_
      refine j_callVV (As := [.int (0 : Int32)]) (rest := []) C 64 (c_X6_reignGoes h) (cwV 1 C.2.2.2.2.2.1 gX6_reignOf_X6_reignGoes rfl rfl rfl hdX6_reignGoes ⟨Nat.le_of_ble_eq_true rfl, Nat.le_of_ble_eq_true rfl⟩) rfl rfl rfl rfl (Nat.le_of_ble_eq_true rfl) dX6_reignOf_10 (fun σ2 h => ?_)
      refine j_aload_n C 0 dX6_reignOf_13 rfl 0 rfl ?_
      refine j_getI C 64 17 rfl rfl rfl in_X6_reignOf_X6 (by decide) (by decide +kernel) dX6_reignOf_14 ?_
      refine j_iload_n C 1 dX6_reignOf_17 rfl 1 rfl ?_
      refine j_icmp_ne C 23 dX6_reignOf_18 (by decide) (fun c3 => ?_) (fun c3 => ?_)
      · replace h := h.1 c3
        obtain ⟨v4, ev4⟩ : ∃ y : Int32, y = x2 + (1 : Int32) := ⟨_, rfl⟩
        replace h := h v4 ev4
        refine j_iinc (v := v4) (lv' := [(2, .int v4), (0, .ref (eA E 64)), (1, .int a1)]) C 2 dX6_reignOf_23 2 rfl (by rw [ev4]; rfl) (by decide) rfl ?_
        refine j_goto C 2 dX6_reignOf_26 (by decide) ?_
        exact j_sub (lv' := [(0, .ref (eA E 64)), (1, .int a1), (2, .int v4)]) [1, 2, 0] rfl h
      · replace h := h.2 c3
        refine j_iload_n C 2 dX6_reignOf_21 rfl 2 rfl ?_
        exact j_iret C dX6_reignOf_22 h)
  refine j_iconst (v := (1 : Int32)) C dX6_reignOf_0 (by decide) ?_
  refine j_istore_n (lv' := [(2, .int (1 : Int32)), (0, .ref (eA E 64)), (1, .int a1)]) C 2 dX6_reignOf_1 rfl (by decide) rfl ?_
  exact j_sub (lv' := [(0, .ref (eA E 64)), (1, .int a1), (2, .int (1 : Int32))]) [1, 2, 0] rfl h
def wp_X6_soonest (a1 : Int32) (σ : Mem) (Q : Int32 → Mem → Prop) : Prop :=
  wp_X6_isHeir a1 σ (fun r2 σ1 => (¬ r2 = 0 → wp_X6_areTwo σ1 (fun r5 σ4 => (¬ r5 = 0 → wp_X6_starts σ4 (fun σ7 => wp_X6_reignOf a1 σ7 (fun r9 σ8 => Q r9 σ8))) ∧ (r5 = 0 → Q (-2 : Int32) σ4))) ∧ (r2 = 0 → Q (-1 : Int32) σ1))
def rmX6_soonest : Room := { frames := 4, cells := 0, slots := 0, locals := 89 }
theorem hdX6_soonest : yX6_soonest.cls = RX6 ∧ yX6_soonest.cls ≠ "java/lang/invoke/MethodHandle" ∧ yX6_soonest.cls ≠ "java/lang/invoke/VarHandle" ∧ (parseMethodDescriptor yX6_soonest.desc).map (fun d => d.parameters.length) = some 1 := by decide +kernel
set_option maxHeartbeats 4000000 in
set_option maxRecDepth 100000 in
theorem c_X6_soonest {l : Launch} {E : EE} {a1 : Int32}  {σ : Mem} {Q : Int32 → Mem → Prop} (h : wp_X6_soonest a1 σ Q) : CtI l yX6_soonest wsX6_soonest rmX6_soonest E [.ref (eA E 64), .int a1] σ Q := by
  refine metI (cc := cX6_soonest) (nL := 2) (ret := (some .int)) (lv := [(0, .ref (eA E 64)), (1, .int a1)]) (by decide) rfl (Nat.le_of_ble_eq_true rfl) rfl ?_
  intro p e s m args below meth c C
  unfold wp_X6_soonest at h
  refine j_aload_n C 0 dX6_soonest_0 rfl 0 rfl ?_
  refine j_iload_n C 1 dX6_soonest_1 rfl 1 rfl ?_
  refine j_callVI (As := [.int a1]) (rest := []) C 64 (c_X6_isHeir h) (cwV 1 C.2.2.2.2.2.1 gX6_soonest_X6_isHeir rfl rfl rfl hdX6_isHeir ⟨Nat.le_of_ble_eq_true rfl, Nat.le_of_ble_eq_true rfl⟩) rfl rfl rfl rfl (Nat.le_of_ble_eq_true rfl) dX6_soonest_2 (fun r2 σ1 h => ?_)
  refine j_if_ne C 10 dX6_soonest_5 (by decide) (fun c3 => ?_) (fun c3 => ?_)
  · replace h := h.1 c3
    refine j_aload_n C 0 dX6_soonest_10 rfl 0 rfl ?_
    refine j_callVI (As := []) (rest := []) C 64 (c_X6_areTwo h) (cwV 0 C.2.2.2.2.2.1 gX6_soonest_X6_areTwo rfl rfl rfl hdX6_areTwo ⟨Nat.le_of_ble_eq_true rfl, Nat.le_of_ble_eq_true rfl⟩) rfl rfl rfl rfl (Nat.le_of_ble_eq_true rfl) dX6_soonest_11 (fun r5 σ4 h => ?_)
    refine j_if_ne C 20 dX6_soonest_14 (by decide) (fun c6 => ?_) (fun c6 => ?_)
    · replace h := h.1 c6
      refine j_aload_n C 0 dX6_soonest_20 rfl 0 rfl ?_
      refine j_callVV (As := []) (rest := []) C 64 (c_X6_starts h) (cwV 0 C.2.2.2.2.2.1 gX6_soonest_X6_starts rfl rfl rfl hdX6_starts ⟨Nat.le_of_ble_eq_true rfl, Nat.le_of_ble_eq_true rfl⟩) rfl rfl rfl rfl (Nat.le_of_ble_eq_true rfl) dX6_soonest_21 (fun σ7 h => ?_)
      refine j_aload_n C 0 dX6_soonest_24 rfl 0 rfl ?_
      refine j_iload_n C 1 dX6_soonest_25 rfl 1 rfl ?_
      refine j_callVI (As := [.int a1]) (rest := []) C 64 (c_X6_reignOf h) (cwV 1 C.2.2.2.2.2.1 gX6_soonest_X6_reignOf rfl rfl rfl hdX6_reignOf ⟨Nat.le_of_ble_eq_true rfl, Nat.le_of_ble_eq_true rfl⟩) rfl rfl rfl rfl (Nat.le_of_ble_eq_true rfl) dX6_soonest_26 (fun r9 σ8 h => ?_)
      exact j_iret C dX6_soonest_29 h
    · replace h := h.2 c6
      refine j_bipush (v := (-2 : Int32)) C dX6_soonest_17 (by decide) ?_
      exact j_iret C dX6_soonest_19 h
  · replace h := h.2 c3
    refine j_iconst (v := (-1 : Int32)) C dX6_soonest_8 (by decide) ?_
    exact j_iret C dX6_soonest_9 h
def wp_X6_isLineAgain (σ : Mem) (Q : Int32 → Mem → Prop) : Prop :=
  ∀ (P4 : Int32 → Int32 → Mem → Prop) (P44 : Int32 → Mem → Prop) (P45 : Int32 → Int32 → Mem → Prop),
  (∀ (x1 : Int32) (x2 : Int32) (σ : Mem), (((σ.1 66 ((24 : Int32)).toNatClampNeg) ≤ x2 → (x1 = 0 ∨ x1 = 1) ∧ Q x1 σ) ∧ (¬ (σ.1 66 ((24 : Int32)).toNatClampNeg) ≤ x2 → (x1 = 0 → P44 x2 σ) ∧ (¬ x1 = 0 → vp_in ((25 : Int32) + x2) 49 ∧ (vp_in ((25 : Int32) + x2) 147 ∧ ((¬ (σ.1 66 (((25 : Int32) + x2)).toNatClampNeg) = (σ.1 65 (((25 : Int32) + x2)).toNatClampNeg) → P44 x2 σ) ∧ ((σ.1 66 (((25 : Int32) + x2)).toNatClampNeg) = (σ.1 65 (((25 : Int32) + x2)).toNatClampNeg) → P45 x2 (1 : Int32) σ)))))) → P4 x1 x2 σ) →
  (∀ (x2 : Int32) (σ : Mem), (P45 x2 (0 : Int32) σ) → P44 x2 σ) →
  (∀ (x2 : Int32) (s0 : Int32) (σ : Mem), (∀ v4 : Int32, v4 = x2 + (1 : Int32) → P4 s0 v4 σ) → P45 x2 s0 σ) →
  P4 (1 : Int32) (0 : Int32) σ
theorem in_X6_isLineAgain_X6 : ∀ w ∈ wsX60, w ∈ wsX6_isLineAgain := fun _ h => List.mem_cons_of_mem _ (List.mem_append_right _ h)
def rmX6_isLineAgain : Room := { frames := 0, cells := 0, slots := 0, locals := 0 }
theorem hdX6_isLineAgain : yX6_isLineAgain.cls = RX6 ∧ yX6_isLineAgain.cls ≠ "java/lang/invoke/MethodHandle" ∧ yX6_isLineAgain.cls ≠ "java/lang/invoke/VarHandle" ∧ (parseMethodDescriptor yX6_isLineAgain.desc).map (fun d => d.parameters.length) = some 0 := by decide +kernel
set_option maxHeartbeats 4000000 in
set_option maxRecDepth 100000 in
theorem c_X6_isLineAgain {l : Launch} {E : EE}   {σ : Mem} {Q : Int32 → Mem → Prop} (h : wp_X6_isLineAgain  σ Q) : CtI l yX6_isLineAgain wsX6_isLineAgain rmX6_isLineAgain E [.ref (eA E 64)] σ Q := by
  refine metI (cc := cX6_isLineAgain) (nL := 3) (ret := (some .boolean)) (lv := [(0, .ref (eA E 64))]) (by decide) rfl (Nat.le_of_ble_eq_true rfl) rfl ?_
  intro p e s m args below meth c C
  unfold wp_X6_isLineAgain at h
  replace h := h (fun (x1 : Int32) (x2 : Int32) (σ : Mem) => J E p l e rmX6_isLineAgain s m args below meth c (QI E below args s Q) 3 4 [(0, .ref (eA E 64)), (1, .int x1), (2, .int x2)] [] σ) (fun (x2 : Int32) (σ : Mem) => J E p l e rmX6_isLineAgain s m args below meth c (QI E below args s Q) 3 44 [(0, .ref (eA E 64)), (2, .int x2)] [] σ) (fun (x2 : Int32) (s0 : Int32) (σ : Mem) => J E p l e rmX6_isLineAgain s m args below meth c (QI E below args s Q) 3 45 [(0, .ref (eA E 64)), (2, .int x2)] [.int s0] σ) (by
    intro x1 x2 σ h
    refine j_iload_n C 2 dX6_isLineAgain_4 rfl 2 rfl ?_
    refine j_aload_n C 0 dX6_isLineAgain_5 rfl 0 rfl ?_
    refine j_getR C 66 64 1 rfl rfl rfl in_X6_isLineAgain_X6 (by decide) (by decide +kernel) dX6_isLineAgain_6 ?_
    refine j_bipush (v := (24 : Int32)) C dX6_isLineAgain_9 (by decide) ?_
    refine j_iald C 66 rfl dX6_isLineAgain_11 (in_lit rfl) ?_
    refine j_icmp_ge C 52 dX6_isLineAgain_12 (by decide) (fun c1 => ?_) (fun c1 => ?_)
    · replace h := h.1 c1
      refine j_iload_n C 1 dX6_isLineAgain_52 rfl 1 rfl ?_
      exact j_zret C dX6_isLineAgain_53 h.1 h.2
    · replace h := h.2 c1
      refine j_iload_n C 1 dX6_isLineAgain_15 rfl 1 rfl ?_
      refine j_if_eq C 44 dX6_isLineAgain_16 (by decide) (fun c2 => ?_) (fun c2 => ?_)
      · replace h := h.1 c2
        exact j_sub (lv' := [(0, .ref (eA E 64)), (2, .int x2)]) [0, 2] rfl h
      · replace h := h.2 c2
        refine j_aload_n C 0 dX6_isLineAgain_19 rfl 0 rfl ?_
        refine j_getR C 66 64 1 rfl rfl rfl in_X6_isLineAgain_X6 (by decide) (by decide +kernel) dX6_isLineAgain_20 ?_
        refine j_bipush (v := (25 : Int32)) C dX6_isLineAgain_23 (by decide) ?_
        refine j_iload_n C 2 dX6_isLineAgain_25 rfl 2 rfl ?_
        refine j_iadd C dX6_isLineAgain_26 ?_
        refine j_iald C 66 rfl dX6_isLineAgain_27 h.1 ?_
        replace h := h.2
        refine j_aload_n C 0 dX6_isLineAgain_28 rfl 0 rfl ?_
        refine j_getR C 65 64 0 rfl rfl rfl in_X6_isLineAgain_X6 (by decide) (by decide +kernel) dX6_isLineAgain_29 ?_
        refine j_bipush (v := (25 : Int32)) C dX6_isLineAgain_32 (by decide) ?_
        refine j_iload_n C 2 dX6_isLineAgain_34 rfl 2 rfl ?_
        refine j_iadd C dX6_isLineAgain_35 ?_
        refine j_iald C 65 rfl dX6_isLineAgain_36 h.1 ?_
        replace h := h.2
        refine j_icmp_ne C 44 dX6_isLineAgain_37 (by decide) (fun c3 => ?_) (fun c3 => ?_)
        · replace h := h.1 c3
          exact j_sub (lv' := [(0, .ref (eA E 64)), (2, .int x2)]) [0, 2] rfl h
        · replace h := h.2 c3
          refine j_iconst (v := (1 : Int32)) C dX6_isLineAgain_40 (by decide) ?_
          refine j_goto C 45 dX6_isLineAgain_41 (by decide) ?_
          exact j_sub (lv' := [(0, .ref (eA E 64)), (2, .int x2)]) [0, 2] rfl h) (by
    intro x2 σ h
    refine j_iconst (v := (0 : Int32)) C dX6_isLineAgain_44 (by decide) ?_
    exact j_sub (lv' := [(0, .ref (eA E 64)), (2, .int x2)]) [0, 1] rfl h) (by
    intro x2 s0 σ h
    refine j_istore_n (lv' := [(1, .int s0), (0, .ref (eA E 64)), (2, .int x2)]) C 1 dX6_isLineAgain_45 rfl (by decide) rfl ?_
    obtain ⟨v4, ev4⟩ : ∃ y : Int32, y = x2 + (1 : Int32) := ⟨_, rfl⟩
    replace h := h v4 ev4
    refine j_iinc (v := v4) (lv' := [(2, .int v4), (1, .int s0), (0, .ref (eA E 64))]) C 2 dX6_isLineAgain_46 2 rfl (by rw [ev4]; rfl) (by decide) rfl ?_
    refine j_goto C 4 dX6_isLineAgain_49 (by decide) ?_
    exact j_sub (lv' := [(0, .ref (eA E 64)), (1, .int s0), (2, .int v4)]) [2, 1, 0] rfl h)
  refine j_iconst (v := (1 : Int32)) C dX6_isLineAgain_0 (by decide) ?_
  refine j_istore_n (lv' := [(1, .int (1 : Int32)), (0, .ref (eA E 64))]) C 1 dX6_isLineAgain_1 rfl (by decide) rfl ?_
  refine j_iconst (v := (0 : Int32)) C dX6_isLineAgain_2 (by decide) ?_
  refine j_istore_n (lv' := [(2, .int (0 : Int32)), (1, .int (1 : Int32)), (0, .ref (eA E 64))]) C 2 dX6_isLineAgain_3 rfl (by decide) rfl ?_
  exact j_sub (lv' := [(0, .ref (eA E 64)), (1, .int (1 : Int32)), (2, .int (0 : Int32))]) [2, 1, 0] rfl h
def wp_X6_again (σ : Mem) (Q : Int32 → Mem → Prop) : Prop :=
  ∀ (P16 : Int32 → Mem → Prop),
  (∀ (x1 : Int32) (σ : Mem), (((60 : Int32) < x1 → Q (-4 : Int32) σ) ∧ (¬ (60 : Int32) < x1 → wp_X6_reignGoes (0 : Int32) σ (fun σ2 => wp_X6_isLineAgain σ2 (fun r4 σ3 => (r4 = 0 → ∀ v6 : Int32, v6 = x1 + (1 : Int32) → P16 v6 σ3) ∧ (¬ r4 = 0 → Q x1 σ3))))) → P16 x1 σ) →
  wp_X6_areTwo σ (fun r8 σ7 => (¬ r8 = 0 → wp_X6_starts σ7 (fun σ10 => P16 (1 : Int32) σ10)) ∧ (r8 = 0 → Q (-2 : Int32) σ7))
def rmX6_again : Room := { frames := 3, cells := 0, slots := 0, locals := 67 }
theorem hdX6_again : yX6_again.cls = RX6 ∧ yX6_again.cls ≠ "java/lang/invoke/MethodHandle" ∧ yX6_again.cls ≠ "java/lang/invoke/VarHandle" ∧ (parseMethodDescriptor yX6_again.desc).map (fun d => d.parameters.length) = some 0 := by decide +kernel
set_option maxHeartbeats 4000000 in
set_option maxRecDepth 100000 in
theorem c_X6_again {l : Launch} {E : EE}   {σ : Mem} {Q : Int32 → Mem → Prop} (h : wp_X6_again  σ Q) : CtI l yX6_again wsX6_again rmX6_again E [.ref (eA E 64)] σ Q := by
  refine metI (cc := cX6_again) (nL := 2) (ret := (some .int)) (lv := [(0, .ref (eA E 64))]) (by decide) rfl (Nat.le_of_ble_eq_true rfl) rfl ?_
  intro p e s m args below meth c C
  unfold wp_X6_again at h
  replace h := h (fun (x1 : Int32) (σ : Mem) => J E p l e rmX6_again s m args below meth c (QI E below args s Q) 2 16 [(0, .ref (eA E 64)), (1, .int x1)] [] σ) (by
    intro x1 σ h
    refine j_iload_n C 1 dX6_again_16 rfl 1 rfl ?_
    refine j_bipush (v := (60 : Int32)) C dX6_again_17 (by decide) ?_
    refine j_icmp_gt C 42 dX6_again_19 (by decide) (fun c1 => ?_) (fun c1 => ?_)
    · replace h := h.1 c1
      refine j_bipush (v := (-4 : Int32)) C dX6_again_42 (by decide) ?_
      exact j_iret C dX6_again_44 h
    · replace h := h.2 c1
      refine j_aload_n C 0 dX6_again_22 rfl 0 rfl ?_
      refine j_iconst (v := (0 : Int32)) C dX6_again_23 (by decide) ?_
      refine j_callVV (As := [.int (0 : Int32)]) (rest := []) C 64 (c_X6_reignGoes h) (cwV 1 C.2.2.2.2.2.1 gX6_again_X6_reignGoes rfl rfl rfl hdX6_reignGoes ⟨Nat.le_of_ble_eq_true rfl, Nat.le_of_ble_eq_true rfl⟩) rfl rfl rfl rfl (Nat.le_of_ble_eq_true rfl) dX6_again_24 (fun σ2 h => ?_)
      refine j_aload_n C 0 dX6_again_27 rfl 0 rfl ?_
      refine j_callVI (As := []) (rest := []) C 64 (c_X6_isLineAgain h) (cwV 0 C.2.2.2.2.2.1 gX6_again_X6_isLineAgain rfl rfl rfl hdX6_isLineAgain ⟨Nat.le_of_ble_eq_true rfl, Nat.le_of_ble_eq_true rfl⟩) rfl rfl rfl rfl (Nat.le_of_ble_eq_true rfl) dX6_again_28 (fun r4 σ3 h => ?_)
      refine j_if_eq C 36 dX6_again_31 (by decide) (fun c5 => ?_) (fun c5 => ?_)
      · replace h := h.1 c5
        obtain ⟨v6, ev6⟩ : ∃ y : Int32, y = x1 + (1 : Int32) := ⟨_, rfl⟩
        replace h := h v6 ev6
        refine j_iinc (v := v6) (lv' := [(1, .int v6), (0, .ref (eA E 64))]) C 1 dX6_again_36 1 rfl (by rw [ev6]; rfl) (by decide) rfl ?_
        refine j_goto C 16 dX6_again_39 (by decide) ?_
        exact j_sub (lv' := [(0, .ref (eA E 64)), (1, .int v6)]) [1, 0] rfl h
      · replace h := h.2 c5
        refine j_iload_n C 1 dX6_again_34 rfl 1 rfl ?_
        exact j_iret C dX6_again_35 h)
  refine j_aload_n C 0 dX6_again_0 rfl 0 rfl ?_
  refine j_callVI (As := []) (rest := []) C 64 (c_X6_areTwo h) (cwV 0 C.2.2.2.2.2.1 gX6_again_X6_areTwo rfl rfl rfl hdX6_areTwo ⟨Nat.le_of_ble_eq_true rfl, Nat.le_of_ble_eq_true rfl⟩) rfl rfl rfl rfl (Nat.le_of_ble_eq_true rfl) dX6_again_1 (fun r8 σ7 h => ?_)
  refine j_if_ne C 10 dX6_again_4 (by decide) (fun c9 => ?_) (fun c9 => ?_)
  · replace h := h.1 c9
    refine j_aload_n C 0 dX6_again_10 rfl 0 rfl ?_
    refine j_callVV (As := []) (rest := []) C 64 (c_X6_starts h) (cwV 0 C.2.2.2.2.2.1 gX6_again_X6_starts rfl rfl rfl hdX6_starts ⟨Nat.le_of_ble_eq_true rfl, Nat.le_of_ble_eq_true rfl⟩) rfl rfl rfl rfl (Nat.le_of_ble_eq_true rfl) dX6_again_11 (fun σ10 h => ?_)
    refine j_iconst (v := (1 : Int32)) C dX6_again_14 (by decide) ?_
    refine j_istore_n (lv' := [(1, .int (1 : Int32)), (0, .ref (eA E 64))]) C 1 dX6_again_15 rfl (by decide) rfl ?_
    exact j_sub (lv' := [(0, .ref (eA E 64)), (1, .int (1 : Int32))]) [1, 0] rfl h
  · replace h := h.2 c9
    refine j_bipush (v := (-2 : Int32)) C dX6_again_7 (by decide) ?_
    exact j_iret C dX6_again_9 h
def wp_X6_ruins (σ : Mem) (Q : Int32 → Mem → Prop) : Prop :=
  ∀ (P16 : Int32 → Mem → Prop),
  (∀ (x1 : Int32) (σ : Mem), (((60 : Int32) < x1 → Q (-4 : Int32) σ) ∧ (¬ (60 : Int32) < x1 → (¬ (σ.1 66 ((32 : Int32)).toNatClampNeg) = 0 → wp_X6_reignGoes (0 : Int32) σ (fun σ3 => ∀ v4 : Int32, v4 = x1 + (1 : Int32) → P16 v4 σ3)) ∧ ((σ.1 66 ((32 : Int32)).toNatClampNeg) = 0 → Q x1 σ))) → P16 x1 σ) →
  wp_X6_areTwo σ (fun r6 σ5 => (¬ r6 = 0 → wp_X6_starts σ5 (fun σ8 => P16 (0 : Int32) σ8)) ∧ (r6 = 0 → Q (-2 : Int32) σ5))
theorem in_X6_ruins_X6 : ∀ w ∈ wsX60, w ∈ wsX6_ruins := fun _ h => List.mem_cons_of_mem _ (List.mem_append_right _ h)
def rmX6_ruins : Room := { frames := 3, cells := 0, slots := 0, locals := 67 }
theorem hdX6_ruins : yX6_ruins.cls = RX6 ∧ yX6_ruins.cls ≠ "java/lang/invoke/MethodHandle" ∧ yX6_ruins.cls ≠ "java/lang/invoke/VarHandle" ∧ (parseMethodDescriptor yX6_ruins.desc).map (fun d => d.parameters.length) = some 0 := by decide +kernel
set_option maxHeartbeats 4000000 in
set_option maxRecDepth 100000 in
theorem c_X6_ruins {l : Launch} {E : EE}   {σ : Mem} {Q : Int32 → Mem → Prop} (h : wp_X6_ruins  σ Q) : CtI l yX6_ruins wsX6_ruins rmX6_ruins E [.ref (eA E 64)] σ Q := by
  refine metI (cc := cX6_ruins) (nL := 2) (ret := (some .int)) (lv := [(0, .ref (eA E 64))]) (by decide) rfl (Nat.le_of_ble_eq_true rfl) rfl ?_
  intro p e s m args below meth c C
  unfold wp_X6_ruins at h
  replace h := h (fun (x1 : Int32) (σ : Mem) => J E p l e rmX6_ruins s m args below meth c (QI E below args s Q) 2 16 [(0, .ref (eA E 64)), (1, .int x1)] [] σ) (by
    intro x1 σ h
    refine j_iload_n C 1 dX6_ruins_16 rfl 1 rfl ?_
    refine j_bipush (v := (60 : Int32)) C dX6_ruins_17 (by decide) ?_
    refine j_icmp_gt C 45 dX6_ruins_19 (by decide) (fun c1 => ?_) (fun c1 => ?_)
    · replace h := h.1 c1
      refine j_bipush (v := (-4 : Int32)) C dX6_ruins_45 (by decide) ?_
      exact j_iret C dX6_ruins_47 h
    · replace h := h.2 c1
      refine j_aload_n C 0 dX6_ruins_22 rfl 0 rfl ?_
      refine j_getR C 66 64 1 rfl rfl rfl in_X6_ruins_X6 (by decide) (by decide +kernel) dX6_ruins_23 ?_
      refine j_bipush (v := (32 : Int32)) C dX6_ruins_26 (by decide) ?_
      refine j_iald C 66 rfl dX6_ruins_28 (in_lit rfl) ?_
      refine j_if_ne C 34 dX6_ruins_29 (by decide) (fun c2 => ?_) (fun c2 => ?_)
      · replace h := h.1 c2
        refine j_aload_n C 0 dX6_ruins_34 rfl 0 rfl ?_
        refine j_iconst (v := (0 : Int32)) C dX6_ruins_35 (by decide) ?_
        refine j_callVV (As := [.int (0 : Int32)]) (rest := []) C 64 (c_X6_reignGoes h) (cwV 1 C.2.2.2.2.2.1 gX6_ruins_X6_reignGoes rfl rfl rfl hdX6_reignGoes ⟨Nat.le_of_ble_eq_true rfl, Nat.le_of_ble_eq_true rfl⟩) rfl rfl rfl rfl (Nat.le_of_ble_eq_true rfl) dX6_ruins_36 (fun σ3 h => ?_)
        obtain ⟨v4, ev4⟩ : ∃ y : Int32, y = x1 + (1 : Int32) := ⟨_, rfl⟩
        replace h := h v4 ev4
        refine j_iinc (v := v4) (lv' := [(1, .int v4), (0, .ref (eA E 64))]) C 1 dX6_ruins_39 1 rfl (by rw [ev4]; rfl) (by decide) rfl ?_
        refine j_goto C 16 dX6_ruins_42 (by decide) ?_
        exact j_sub (lv' := [(0, .ref (eA E 64)), (1, .int v4)]) [1, 0] rfl h
      · replace h := h.2 c2
        refine j_iload_n C 1 dX6_ruins_32 rfl 1 rfl ?_
        exact j_iret C dX6_ruins_33 h)
  refine j_aload_n C 0 dX6_ruins_0 rfl 0 rfl ?_
  refine j_callVI (As := []) (rest := []) C 64 (c_X6_areTwo h) (cwV 0 C.2.2.2.2.2.1 gX6_ruins_X6_areTwo rfl rfl rfl hdX6_areTwo ⟨Nat.le_of_ble_eq_true rfl, Nat.le_of_ble_eq_true rfl⟩) rfl rfl rfl rfl (Nat.le_of_ble_eq_true rfl) dX6_ruins_1 (fun r6 σ5 h => ?_)
  refine j_if_ne C 10 dX6_ruins_4 (by decide) (fun c7 => ?_) (fun c7 => ?_)
  · replace h := h.1 c7
    refine j_aload_n C 0 dX6_ruins_10 rfl 0 rfl ?_
    refine j_callVV (As := []) (rest := []) C 64 (c_X6_starts h) (cwV 0 C.2.2.2.2.2.1 gX6_ruins_X6_starts rfl rfl rfl hdX6_starts ⟨Nat.le_of_ble_eq_true rfl, Nat.le_of_ble_eq_true rfl⟩) rfl rfl rfl rfl (Nat.le_of_ble_eq_true rfl) dX6_ruins_11 (fun σ8 h => ?_)
    refine j_iconst (v := (0 : Int32)) C dX6_ruins_14 (by decide) ?_
    refine j_istore_n (lv' := [(1, .int (0 : Int32)), (0, .ref (eA E 64))]) C 1 dX6_ruins_15 rfl (by decide) rfl ?_
    exact j_sub (lv' := [(0, .ref (eA E 64)), (1, .int (0 : Int32))]) [1, 0] rfl h
  · replace h := h.2 c7
    refine j_bipush (v := (-2 : Int32)) C dX6_ruins_7 (by decide) ?_
    exact j_iret C dX6_ruins_9 h
def wp_X6_need (a1 : Int32) (σ : Mem) (Q : Int32 → Mem → Prop) : Prop :=
  ∀ (P22 : Int32 → Mem → Prop) (P58 : Int32 → Mem → Prop),
  (∀ (x2 : Int32) (σ : Mem), (((20 : Int32) < x2 → Q (-4 : Int32) σ) ∧ (¬ (20 : Int32) < x2 → wp_X6_starts σ (fun σ2 => wp_X6_becomesOf a1 (1 : Int32) x2 σ2 (fun σ3 => wp_X6_reignOf a1 σ3 (fun r5 σ4 => (r5 = (-4 : Int32) → P58 x2 σ4) ∧ (¬ r5 = (-4 : Int32) → (¬ (σ4.1 64 19) = 0 → P58 x2 σ4) ∧ ((σ4.1 64 19) = 0 → Q x2 σ4))))))) → P22 x2 σ) →
  (∀ (x2 : Int32) (σ : Mem), (∀ v8 : Int32, v8 = x2 + (1 : Int32) → P22 v8 σ) → P58 x2 σ) →
  wp_X6_isHeir a1 σ (fun r10 σ9 => (¬ r10 = 0 → wp_X6_areTwo σ9 (fun r13 σ12 => (¬ r13 = 0 → P22 (0 : Int32) σ12) ∧ (r13 = 0 → Q (-2 : Int32) σ12))) ∧ (r10 = 0 → Q (-1 : Int32) σ9))
theorem in_X6_need_X6 : ∀ w ∈ wsX60, w ∈ wsX6_need := fun _ h => List.mem_cons_of_mem _ (List.mem_append_right _ h)
def rmX6_need : Room := { frames := 4, cells := 0, slots := 0, locals := 89 }
theorem hdX6_need : yX6_need.cls = RX6 ∧ yX6_need.cls ≠ "java/lang/invoke/MethodHandle" ∧ yX6_need.cls ≠ "java/lang/invoke/VarHandle" ∧ (parseMethodDescriptor yX6_need.desc).map (fun d => d.parameters.length) = some 1 := by decide +kernel
set_option maxHeartbeats 4000000 in
set_option maxRecDepth 100000 in
theorem c_X6_need {l : Launch} {E : EE} {a1 : Int32}  {σ : Mem} {Q : Int32 → Mem → Prop} (h : wp_X6_need a1 σ Q) : CtI l yX6_need wsX6_need rmX6_need E [.ref (eA E 64), .int a1] σ Q := by
  refine metI (cc := cX6_need) (nL := 3) (ret := (some .int)) (lv := [(0, .ref (eA E 64)), (1, .int a1)]) (by decide) rfl (Nat.le_of_ble_eq_true rfl) rfl ?_
  intro p e s m args below meth c C
  unfold wp_X6_need at h
  replace h := h (fun (x2 : Int32) (σ : Mem) => J E p l e rmX6_need s m args below meth c (QI E below args s Q) 3 22 [(0, .ref (eA E 64)), (1, .int a1), (2, .int x2)] [] σ) (fun (x2 : Int32) (σ : Mem) => J E p l e rmX6_need s m args below meth c (QI E below args s Q) 3 58 [(0, .ref (eA E 64)), (1, .int a1), (2, .int x2)] [] σ) (by
    intro x2 σ h
    refine j_iload_n C 2 dX6_need_22 rfl 2 rfl ?_
    refine j_bipush (v := (20 : Int32)) C dX6_need_23 (by decide) ?_
    refine j_icmp_gt C 64 dX6_need_25 (by decide) (fun c1 => ?_) (fun c1 => ?_)
    · replace h := h.1 c1
      refine j_bipush (v := (-4 : Int32)) C dX6_need_64 (by decide) ?_
      exact j_iret C dX6_need_66 h
    · replace h := h.2 c1
      refine j_aload_n C 0 dX6_need_28 rfl 0 rfl ?_
      refine j_callVV (As := []) (rest := []) C 64 (c_X6_starts h) (cwV 0 C.2.2.2.2.2.1 gX6_need_X6_starts rfl rfl rfl hdX6_starts ⟨Nat.le_of_ble_eq_true rfl, Nat.le_of_ble_eq_true rfl⟩) rfl rfl rfl rfl (Nat.le_of_ble_eq_true rfl) dX6_need_29 (fun σ2 h => ?_)
      refine j_aload_n C 0 dX6_need_32 rfl 0 rfl ?_
      refine j_iload_n C 1 dX6_need_33 rfl 1 rfl ?_
      refine j_iconst (v := (1 : Int32)) C dX6_need_34 (by decide) ?_
      refine j_iload_n C 2 dX6_need_35 rfl 2 rfl ?_
      refine j_callVV (As := [.int a1, .int (1 : Int32), .int x2]) (rest := []) C 64 (c_X6_becomesOf h) (cwV 3 C.2.2.2.2.2.1 gX6_need_X6_becomesOf rfl rfl rfl hdX6_becomesOf ⟨Nat.le_of_ble_eq_true rfl, Nat.le_of_ble_eq_true rfl⟩) rfl rfl rfl rfl (Nat.le_of_ble_eq_true rfl) dX6_need_36 (fun σ3 h => ?_)
      refine j_aload_n C 0 dX6_need_39 rfl 0 rfl ?_
      refine j_iload_n C 1 dX6_need_40 rfl 1 rfl ?_
      refine j_callVI (As := [.int a1]) (rest := []) C 64 (c_X6_reignOf h) (cwV 1 C.2.2.2.2.2.1 gX6_need_X6_reignOf rfl rfl rfl hdX6_reignOf ⟨Nat.le_of_ble_eq_true rfl, Nat.le_of_ble_eq_true rfl⟩) rfl rfl rfl rfl (Nat.le_of_ble_eq_true rfl) dX6_need_41 (fun r5 σ4 h => ?_)
      refine j_bipush (v := (-4 : Int32)) C dX6_need_44 (by decide) ?_
      refine j_icmp_eq C 58 dX6_need_46 (by decide) (fun c6 => ?_) (fun c6 => ?_)
      · replace h := h.1 c6
        exact j_sub (lv' := [(0, .ref (eA E 64)), (1, .int a1), (2, .int x2)]) [0, 1, 2] rfl h
      · replace h := h.2 c6
        refine j_aload_n C 0 dX6_need_49 rfl 0 rfl ?_
        refine j_getI C 64 19 rfl rfl rfl in_X6_need_X6 (by decide) (by decide +kernel) dX6_need_50 ?_
        refine j_if_ne C 58 dX6_need_53 (by decide) (fun c7 => ?_) (fun c7 => ?_)
        · replace h := h.1 c7
          exact j_sub (lv' := [(0, .ref (eA E 64)), (1, .int a1), (2, .int x2)]) [0, 1, 2] rfl h
        · replace h := h.2 c7
          refine j_iload_n C 2 dX6_need_56 rfl 2 rfl ?_
          exact j_iret C dX6_need_57 h) (by
    intro x2 σ h
    obtain ⟨v8, ev8⟩ : ∃ y : Int32, y = x2 + (1 : Int32) := ⟨_, rfl⟩
    replace h := h v8 ev8
    refine j_iinc (v := v8) (lv' := [(2, .int v8), (0, .ref (eA E 64)), (1, .int a1)]) C 2 dX6_need_58 2 rfl (by rw [ev8]; rfl) (by decide) rfl ?_
    refine j_goto C 22 dX6_need_61 (by decide) ?_
    exact j_sub (lv' := [(0, .ref (eA E 64)), (1, .int a1), (2, .int v8)]) [1, 2, 0] rfl h)
  refine j_aload_n C 0 dX6_need_0 rfl 0 rfl ?_
  refine j_iload_n C 1 dX6_need_1 rfl 1 rfl ?_
  refine j_callVI (As := [.int a1]) (rest := []) C 64 (c_X6_isHeir h) (cwV 1 C.2.2.2.2.2.1 gX6_need_X6_isHeir rfl rfl rfl hdX6_isHeir ⟨Nat.le_of_ble_eq_true rfl, Nat.le_of_ble_eq_true rfl⟩) rfl rfl rfl rfl (Nat.le_of_ble_eq_true rfl) dX6_need_2 (fun r10 σ9 h => ?_)
  refine j_if_ne C 10 dX6_need_5 (by decide) (fun c11 => ?_) (fun c11 => ?_)
  · replace h := h.1 c11
    refine j_aload_n C 0 dX6_need_10 rfl 0 rfl ?_
    refine j_callVI (As := []) (rest := []) C 64 (c_X6_areTwo h) (cwV 0 C.2.2.2.2.2.1 gX6_need_X6_areTwo rfl rfl rfl hdX6_areTwo ⟨Nat.le_of_ble_eq_true rfl, Nat.le_of_ble_eq_true rfl⟩) rfl rfl rfl rfl (Nat.le_of_ble_eq_true rfl) dX6_need_11 (fun r13 σ12 h => ?_)
    refine j_if_ne C 20 dX6_need_14 (by decide) (fun c14 => ?_) (fun c14 => ?_)
    · replace h := h.1 c14
      refine j_iconst (v := (0 : Int32)) C dX6_need_20 (by decide) ?_
      refine j_istore_n (lv' := [(2, .int (0 : Int32)), (0, .ref (eA E 64)), (1, .int a1)]) C 2 dX6_need_21 rfl (by decide) rfl ?_
      exact j_sub (lv' := [(0, .ref (eA E 64)), (1, .int a1), (2, .int (0 : Int32))]) [1, 2, 0] rfl h
    · replace h := h.2 c14
      refine j_bipush (v := (-2 : Int32)) C dX6_need_17 (by decide) ?_
      exact j_iret C dX6_need_19 h
  · replace h := h.2 c11
    refine j_iconst (v := (-1 : Int32)) C dX6_need_8 (by decide) ?_
    exact j_iret C dX6_need_9 h
def wp_X6_order (a1 : Int32) (a2 : Int32) (σ : Mem) (Q : Int32 → Mem → Prop) : Prop :=
  ∀ (P50 : Int32 → Int32 → Int32 → Mem → Prop) (P68 : Int32 → Int32 → Int32 → Int32 → Mem → Prop) (P153 : Int32 → Int32 → Int32 → Int32 → Mem → Prop) (P177 : Int32 → Int32 → Int32 → Int32 → Mem → Prop),
  (∀ (x3 : Int32) (x4 : Int32) (x5 : Int32) (σ : Mem), (((σ.1 65 ((24 : Int32)).toNatClampNeg) ≤ x5 → (¬ x4 = (-4 : Int32) → (¬ a2 = 0 → Q x3 σ) ∧ (a2 = 0 → Q x4 σ)) ∧ (x4 = (-4 : Int32) → Q (-4 : Int32) σ)) ∧ (¬ (σ.1 65 ((24 : Int32)).toNatClampNeg) ≤ x5 → ∀ v4 : Int32, v4 = (x5 + (1 : Int32)) → P68 x3 x4 x5 v4 σ)) → P50 x3 x4 x5 σ) →
  (∀ (x3 : Int32) (x4 : Int32) (x5 : Int32) (x6 : Int32) (σ : Mem), (((σ.1 65 ((24 : Int32)).toNatClampNeg) ≤ x6 → ∀ v6 : Int32, v6 = x5 + (1 : Int32) → P50 x3 x4 v6 σ) ∧ (¬ (σ.1 65 ((24 : Int32)).toNatClampNeg) ≤ x6 → wp_X6_starts σ (fun σ7 => vp_in ((25 : Int32) + x6) 147 ∧ (vp_in ((25 : Int32) + x5) 49 ∧ (∀ σ8 : Mem, σ8 = st1 σ7 66 (((25 : Int32) + x5)).toNatClampNeg (σ7.1 65 (((25 : Int32) + x6)).toNatClampNeg) → vp_in ((25 : Int32) + x5) 147 ∧ (vp_in ((25 : Int32) + x6) 49 ∧ (∀ σ9 : Mem, σ9 = st1 σ8 66 (((25 : Int32) + x6)).toNatClampNeg (σ8.1 65 (((25 : Int32) + x5)).toNatClampNeg) → wp_X6_reignsGo a1 σ9 (fun σ10 => ((σ10.1 66 ((32 : Int32)).toNatClampNeg) ≤ x3 → P153 x3 x5 x6 x4 σ10) ∧ (¬ (σ10.1 66 ((32 : Int32)).toNatClampNeg) ≤ x3 → P153 x3 x5 x6 ((((10 : Int32) * x5) + x6)) σ10))))))))) → P68 x3 x4 x5 x6 σ) →
  (∀ (x3 : Int32) (x5 : Int32) (x6 : Int32) (s0 : Int32) (σ : Mem), (((σ.1 66 ((32 : Int32)).toNatClampNeg) ≤ x3 → P177 s0 x5 x6 x3 σ) ∧ (¬ (σ.1 66 ((32 : Int32)).toNatClampNeg) ≤ x3 → P177 s0 x5 x6 ((σ.1 66 ((32 : Int32)).toNatClampNeg)) σ)) → P153 x3 x5 x6 s0 σ) →
  (∀ (x4 : Int32) (x5 : Int32) (x6 : Int32) (s0 : Int32) (σ : Mem), (∀ v13 : Int32, v13 = x6 + (1 : Int32) → P68 s0 x4 x5 v13 σ) → P177 x4 x5 x6 s0 σ) →
  wp_X6_isFar a1 σ (fun r15 σ14 => (r15 = 0 → Q (-1 : Int32) σ14) ∧ (¬ r15 = 0 → wp_X6_isPart a2 σ14 (fun r18 σ17 => (¬ r18 = 0 → wp_X6_areTwo σ17 (fun r21 σ20 => (¬ r21 = 0 → wp_X6_starts σ20 (fun σ23 => wp_X6_reignsGo a1 σ23 (fun σ24 => ∀ v25 : Int32, v25 = (σ24.1 66 ((32 : Int32)).toNatClampNeg) → P50 v25 (-4 : Int32) (0 : Int32) σ24))) ∧ (r21 = 0 → Q (-2 : Int32) σ20))) ∧ (r18 = 0 → Q (-1 : Int32) σ17))))
theorem in_X6_order_X6 : ∀ w ∈ wsX60, w ∈ wsX6_order := fun _ h => List.mem_cons_of_mem _ (List.mem_append_right _ h)
def rmX6_order : Room := { frames := 4, cells := 0, slots := 0, locals := 89 }
theorem hdX6_order : yX6_order.cls = RX6 ∧ yX6_order.cls ≠ "java/lang/invoke/MethodHandle" ∧ yX6_order.cls ≠ "java/lang/invoke/VarHandle" ∧ (parseMethodDescriptor yX6_order.desc).map (fun d => d.parameters.length) = some 2 := by decide +kernel
set_option maxHeartbeats 4000000 in
set_option maxRecDepth 100000 in
theorem c_X6_order {l : Launch} {E : EE} {a1 : Int32} {a2 : Int32}  {σ : Mem} {Q : Int32 → Mem → Prop} (h : wp_X6_order a1 a2 σ Q) : CtI l yX6_order wsX6_order rmX6_order E [.ref (eA E 64), .int a1, .int a2] σ Q := by
  refine metI (cc := cX6_order) (nL := 7) (ret := (some .int)) (lv := [(0, .ref (eA E 64)), (1, .int a1), (2, .int a2)]) (by decide) rfl (Nat.le_of_ble_eq_true rfl) rfl ?_
  intro p e s m args below meth c C
  unfold wp_X6_order at h
  replace h := h (fun (x3 : Int32) (x4 : Int32) (x5 : Int32) (σ : Mem) => J E p l e rmX6_order s m args below meth c (QI E below args s Q) 7 50 [(0, .ref (eA E 64)), (1, .int a1), (2, .int a2), (3, .int x3), (4, .int x4), (5, .int x5)] [] σ) (fun (x3 : Int32) (x4 : Int32) (x5 : Int32) (x6 : Int32) (σ : Mem) => J E p l e rmX6_order s m args below meth c (QI E below args s Q) 7 68 [(0, .ref (eA E 64)), (1, .int a1), (2, .int a2), (3, .int x3), (4, .int x4), (5, .int x5), (6, .int x6)] [] σ) (fun (x3 : Int32) (x5 : Int32) (x6 : Int32) (s0 : Int32) (σ : Mem) => J E p l e rmX6_order s m args below meth c (QI E below args s Q) 7 153 [(0, .ref (eA E 64)), (1, .int a1), (2, .int a2), (3, .int x3), (5, .int x5), (6, .int x6)] [.int s0] σ) (fun (x4 : Int32) (x5 : Int32) (x6 : Int32) (s0 : Int32) (σ : Mem) => J E p l e rmX6_order s m args below meth c (QI E below args s Q) 7 177 [(0, .ref (eA E 64)), (1, .int a1), (2, .int a2), (4, .int x4), (5, .int x5), (6, .int x6)] [.int s0] σ) (by
    intro x3 x4 x5 σ h
    refine j_iload C 5 dX6_order_50 5 rfl ?_
    refine j_aload_n C 0 dX6_order_52 rfl 0 rfl ?_
    refine j_getR C 65 64 0 rfl rfl rfl in_X6_order_X6 (by decide) (by decide +kernel) dX6_order_53 ?_
    refine j_bipush (v := (24 : Int32)) C dX6_order_56 (by decide) ?_
    refine j_iald C 65 rfl dX6_order_58 (in_lit rfl) ?_
    refine j_icmp_ge C 190 dX6_order_59 (by decide) (fun c1 => ?_) (fun c1 => ?_)
    · replace h := h.1 c1
      refine j_iload C 4 dX6_order_190 4 rfl ?_
      refine j_bipush (v := (-4 : Int32)) C dX6_order_192 (by decide) ?_
      refine j_icmp_ne C 202 dX6_order_194 (by decide) (fun c2 => ?_) (fun c2 => ?_)
      · replace h := h.1 c2
        refine j_iload_n C 2 dX6_order_202 rfl 2 rfl ?_
        refine j_if_ne C 211 dX6_order_203 (by decide) (fun c3 => ?_) (fun c3 => ?_)
        · replace h := h.1 c3
          refine j_iload_n C 3 dX6_order_211 rfl 3 rfl ?_
          exact j_iret C dX6_order_212 h
        · replace h := h.2 c3
          refine j_iload C 4 dX6_order_206 4 rfl ?_
          refine j_goto C 212 dX6_order_208 (by decide) ?_
          exact j_iret C dX6_order_212 h
      · replace h := h.2 c2
        refine j_bipush (v := (-4 : Int32)) C dX6_order_197 (by decide) ?_
        refine j_goto C 212 dX6_order_199 (by decide) ?_
        exact j_iret C dX6_order_212 h
    · replace h := h.2 c1
      refine j_iload C 5 dX6_order_62 5 rfl ?_
      refine j_iconst (v := (1 : Int32)) C dX6_order_64 (by decide) ?_
      refine j_iadd C dX6_order_65 ?_
      refine j_topi (fun v4 ev4 => ?_)
      replace h := h v4 ev4
      refine j_istore (lv' := [(6, .int v4), (0, .ref (eA E 64)), (1, .int a1), (2, .int a2), (3, .int x3), (4, .int x4), (5, .int x5)]) C 6 dX6_order_66 (by decide) rfl ?_
      exact j_sub (lv' := [(0, .ref (eA E 64)), (1, .int a1), (2, .int a2), (3, .int x3), (4, .int x4), (5, .int x5), (6, .int v4)]) [1, 2, 3, 4, 5, 6, 0] rfl h) (by
    intro x3 x4 x5 x6 σ h
    refine j_iload C 6 dX6_order_68 6 rfl ?_
    refine j_aload_n C 0 dX6_order_70 rfl 0 rfl ?_
    refine j_getR C 65 64 0 rfl rfl rfl in_X6_order_X6 (by decide) (by decide +kernel) dX6_order_71 ?_
    refine j_bipush (v := (24 : Int32)) C dX6_order_74 (by decide) ?_
    refine j_iald C 65 rfl dX6_order_76 (in_lit rfl) ?_
    refine j_icmp_ge C 184 dX6_order_77 (by decide) (fun c5 => ?_) (fun c5 => ?_)
    · replace h := h.1 c5
      obtain ⟨v6, ev6⟩ : ∃ y : Int32, y = x5 + (1 : Int32) := ⟨_, rfl⟩
      replace h := h v6 ev6
      refine j_iinc (v := v6) (lv' := [(5, .int v6), (0, .ref (eA E 64)), (1, .int a1), (2, .int a2), (3, .int x3), (4, .int x4), (6, .int x6)]) C 5 dX6_order_184 5 rfl (by rw [ev6]; rfl) (by decide) rfl ?_
      refine j_goto C 50 dX6_order_187 (by decide) ?_
      exact j_sub (lv' := [(0, .ref (eA E 64)), (1, .int a1), (2, .int a2), (3, .int x3), (4, .int x4), (5, .int v6)]) [1, 2, 3, 4, 5, 0] rfl h
    · replace h := h.2 c5
      refine j_aload_n C 0 dX6_order_80 rfl 0 rfl ?_
      refine j_callVV (As := []) (rest := []) C 64 (c_X6_starts h) (cwV 0 C.2.2.2.2.2.1 gX6_order_X6_starts rfl rfl rfl hdX6_starts ⟨Nat.le_of_ble_eq_true rfl, Nat.le_of_ble_eq_true rfl⟩) rfl rfl rfl rfl (Nat.le_of_ble_eq_true rfl) dX6_order_81 (fun σ7 h => ?_)
      refine j_aload_n C 0 dX6_order_84 rfl 0 rfl ?_
      refine j_getR C 66 64 1 rfl rfl rfl in_X6_order_X6 (by decide) (by decide +kernel) dX6_order_85 ?_
      refine j_bipush (v := (25 : Int32)) C dX6_order_88 (by decide) ?_
      refine j_iload C 5 dX6_order_90 5 rfl ?_
      refine j_iadd C dX6_order_92 ?_
      refine j_aload_n C 0 dX6_order_93 rfl 0 rfl ?_
      refine j_getR C 65 64 0 rfl rfl rfl in_X6_order_X6 (by decide) (by decide +kernel) dX6_order_94 ?_
      refine j_bipush (v := (25 : Int32)) C dX6_order_97 (by decide) ?_
      refine j_iload C 6 dX6_order_99 6 rfl ?_
      refine j_iadd C dX6_order_101 ?_
      refine j_iald C 65 rfl dX6_order_102 h.1 ?_
      replace h := h.2
      refine j_iast C 66 rfl dX6_order_103 h.1 ?_
      replace h := h.2
      refine j_mem (fun σ8 eσ8 => ?_)
      replace h := h σ8 eσ8
      refine j_aload_n C 0 dX6_order_104 rfl 0 rfl ?_
      refine j_getR C 66 64 1 rfl rfl rfl in_X6_order_X6 (by decide) (by decide +kernel) dX6_order_105 ?_
      refine j_bipush (v := (25 : Int32)) C dX6_order_108 (by decide) ?_
      refine j_iload C 6 dX6_order_110 6 rfl ?_
      refine j_iadd C dX6_order_112 ?_
      refine j_aload_n C 0 dX6_order_113 rfl 0 rfl ?_
      refine j_getR C 65 64 0 rfl rfl rfl in_X6_order_X6 (by decide) (by decide +kernel) dX6_order_114 ?_
      refine j_bipush (v := (25 : Int32)) C dX6_order_117 (by decide) ?_
      refine j_iload C 5 dX6_order_119 5 rfl ?_
      refine j_iadd C dX6_order_121 ?_
      refine j_iald C 65 rfl dX6_order_122 h.1 ?_
      replace h := h.2
      refine j_iast C 66 rfl dX6_order_123 h.1 ?_
      replace h := h.2
      refine j_mem (fun σ9 eσ9 => ?_)
      replace h := h σ9 eσ9
      refine j_aload_n C 0 dX6_order_124 rfl 0 rfl ?_
      refine j_iload_n C 1 dX6_order_125 rfl 1 rfl ?_
      refine j_callVV (As := [.int a1]) (rest := []) C 64 (c_X6_reignsGo h) (cwV 1 C.2.2.2.2.2.1 gX6_order_X6_reignsGo rfl rfl rfl hdX6_reignsGo ⟨Nat.le_of_ble_eq_true rfl, Nat.le_of_ble_eq_true rfl⟩) rfl rfl rfl rfl (Nat.le_of_ble_eq_true rfl) dX6_order_126 (fun σ10 h => ?_)
      refine j_aload_n C 0 dX6_order_129 rfl 0 rfl ?_
      refine j_getR C 66 64 1 rfl rfl rfl in_X6_order_X6 (by decide) (by decide +kernel) dX6_order_130 ?_
      refine j_bipush (v := (32 : Int32)) C dX6_order_133 (by decide) ?_
      refine j_iald C 66 rfl dX6_order_135 (in_lit rfl) ?_
      refine j_iload_n C 3 dX6_order_136 rfl 3 rfl ?_
      refine j_icmp_le C 151 dX6_order_137 (by decide) (fun c11 => ?_) (fun c11 => ?_)
      · replace h := h.1 c11
        refine j_iload C 4 dX6_order_151 4 rfl ?_
        exact j_sub (lv' := [(0, .ref (eA E 64)), (1, .int a1), (2, .int a2), (3, .int x3), (5, .int x5), (6, .int x6)]) [0, 1, 2, 3, 5, 6] rfl h
      · replace h := h.2 c11
        refine j_bipush (v := (10 : Int32)) C dX6_order_140 (by decide) ?_
        refine j_iload C 5 dX6_order_142 5 rfl ?_
        refine j_imul C dX6_order_144 ?_
        refine j_iload C 6 dX6_order_145 6 rfl ?_
        refine j_iadd C dX6_order_147 ?_
        refine j_goto C 153 dX6_order_148 (by decide) ?_
        exact j_sub (lv' := [(0, .ref (eA E 64)), (1, .int a1), (2, .int a2), (3, .int x3), (5, .int x5), (6, .int x6)]) [0, 1, 2, 3, 5, 6] rfl h) (by
    intro x3 x5 x6 s0 σ h
    refine j_istore (lv' := [(4, .int s0), (0, .ref (eA E 64)), (1, .int a1), (2, .int a2), (3, .int x3), (5, .int x5), (6, .int x6)]) C 4 dX6_order_153 (by decide) rfl ?_
    refine j_aload_n C 0 dX6_order_155 rfl 1 rfl ?_
    refine j_getR C 66 64 1 rfl rfl rfl in_X6_order_X6 (by decide) (by decide +kernel) dX6_order_156 ?_
    refine j_bipush (v := (32 : Int32)) C dX6_order_159 (by decide) ?_
    refine j_iald C 66 rfl dX6_order_161 (in_lit rfl) ?_
    refine j_iload_n C 3 dX6_order_162 rfl 4 rfl ?_
    refine j_icmp_le C 176 dX6_order_163 (by decide) (fun c12 => ?_) (fun c12 => ?_)
    · replace h := h.1 c12
      refine j_iload_n C 3 dX6_order_176 rfl 4 rfl ?_
      exact j_sub (lv' := [(0, .ref (eA E 64)), (1, .int a1), (2, .int a2), (4, .int s0), (5, .int x5), (6, .int x6)]) [1, 2, 3, 0, 5, 6] rfl h
    · replace h := h.2 c12
      refine j_aload_n C 0 dX6_order_166 rfl 1 rfl ?_
      refine j_getR C 66 64 1 rfl rfl rfl in_X6_order_X6 (by decide) (by decide +kernel) dX6_order_167 ?_
      refine j_bipush (v := (32 : Int32)) C dX6_order_170 (by decide) ?_
      refine j_iald C 66 rfl dX6_order_172 (in_lit rfl) ?_
      refine j_goto C 177 dX6_order_173 (by decide) ?_
      exact j_sub (lv' := [(0, .ref (eA E 64)), (1, .int a1), (2, .int a2), (4, .int s0), (5, .int x5), (6, .int x6)]) [1, 2, 3, 0, 5, 6] rfl h) (by
    intro x4 x5 x6 s0 σ h
    refine j_istore_n (lv' := [(3, .int s0), (0, .ref (eA E 64)), (1, .int a1), (2, .int a2), (4, .int x4), (5, .int x5), (6, .int x6)]) C 3 dX6_order_177 rfl (by decide) rfl ?_
    obtain ⟨v13, ev13⟩ : ∃ y : Int32, y = x6 + (1 : Int32) := ⟨_, rfl⟩
    replace h := h v13 ev13
    refine j_iinc (v := v13) (lv' := [(6, .int v13), (3, .int s0), (0, .ref (eA E 64)), (1, .int a1), (2, .int a2), (4, .int x4), (5, .int x5)]) C 6 dX6_order_178 6 rfl (by rw [ev13]; rfl) (by decide) rfl ?_
    refine j_goto C 68 dX6_order_181 (by decide) ?_
    exact j_sub (lv' := [(0, .ref (eA E 64)), (1, .int a1), (2, .int a2), (3, .int s0), (4, .int x4), (5, .int x5), (6, .int v13)]) [2, 3, 4, 1, 5, 6, 0] rfl h)
  refine j_iload_n C 1 dX6_order_0 rfl 1 rfl ?_
  refine j_callSI (As := [.int a1]) (rest := []) C (c_X6_isFar h) (va_cwS 1 C.2.2.2.2.2.1 gX6_order_X6_isFar rfl rfl rfl hdX6_isFar.2 ⟨Nat.le_of_ble_eq_true rfl, Nat.le_of_ble_eq_true rfl⟩) rfl rfl (Nat.le_of_ble_eq_true rfl) dX6_order_1 (fun r15 σ14 h => ?_)
  refine j_if_eq C 14 dX6_order_4 (by decide) (fun c16 => ?_) (fun c16 => ?_)
  · replace h := h.1 c16
    refine j_iconst (v := (-1 : Int32)) C dX6_order_14 (by decide) ?_
    exact j_iret C dX6_order_15 h
  · replace h := h.2 c16
    refine j_iload_n C 2 dX6_order_7 rfl 2 rfl ?_
    refine j_callSI (As := [.int a2]) (rest := []) C (c_X6_isPart h) (va_cwS 1 C.2.2.2.2.2.1 gX6_order_X6_isPart rfl rfl rfl hdX6_isPart.2 ⟨Nat.le_of_ble_eq_true rfl, Nat.le_of_ble_eq_true rfl⟩) rfl rfl (Nat.le_of_ble_eq_true rfl) dX6_order_8 (fun r18 σ17 h => ?_)
    refine j_if_ne C 16 dX6_order_11 (by decide) (fun c19 => ?_) (fun c19 => ?_)
    · replace h := h.1 c19
      refine j_aload_n C 0 dX6_order_16 rfl 0 rfl ?_
      refine j_callVI (As := []) (rest := []) C 64 (c_X6_areTwo h) (cwV 0 C.2.2.2.2.2.1 gX6_order_X6_areTwo rfl rfl rfl hdX6_areTwo ⟨Nat.le_of_ble_eq_true rfl, Nat.le_of_ble_eq_true rfl⟩) rfl rfl rfl rfl (Nat.le_of_ble_eq_true rfl) dX6_order_17 (fun r21 σ20 h => ?_)
      refine j_if_ne C 26 dX6_order_20 (by decide) (fun c22 => ?_) (fun c22 => ?_)
      · replace h := h.1 c22
        refine j_aload_n C 0 dX6_order_26 rfl 0 rfl ?_
        refine j_callVV (As := []) (rest := []) C 64 (c_X6_starts h) (cwV 0 C.2.2.2.2.2.1 gX6_order_X6_starts rfl rfl rfl hdX6_starts ⟨Nat.le_of_ble_eq_true rfl, Nat.le_of_ble_eq_true rfl⟩) rfl rfl rfl rfl (Nat.le_of_ble_eq_true rfl) dX6_order_27 (fun σ23 h => ?_)
        refine j_aload_n C 0 dX6_order_30 rfl 0 rfl ?_
        refine j_iload_n C 1 dX6_order_31 rfl 1 rfl ?_
        refine j_callVV (As := [.int a1]) (rest := []) C 64 (c_X6_reignsGo h) (cwV 1 C.2.2.2.2.2.1 gX6_order_X6_reignsGo rfl rfl rfl hdX6_reignsGo ⟨Nat.le_of_ble_eq_true rfl, Nat.le_of_ble_eq_true rfl⟩) rfl rfl rfl rfl (Nat.le_of_ble_eq_true rfl) dX6_order_32 (fun σ24 h => ?_)
        refine j_aload_n C 0 dX6_order_35 rfl 0 rfl ?_
        refine j_getR C 66 64 1 rfl rfl rfl in_X6_order_X6 (by decide) (by decide +kernel) dX6_order_36 ?_
        refine j_bipush (v := (32 : Int32)) C dX6_order_39 (by decide) ?_
        refine j_iald C 66 rfl dX6_order_41 (in_lit rfl) ?_
        refine j_topi (fun v25 ev25 => ?_)
        replace h := h v25 ev25
        refine j_istore_n (lv' := [(3, .int v25), (0, .ref (eA E 64)), (1, .int a1), (2, .int a2)]) C 3 dX6_order_42 rfl (by decide) rfl ?_
        refine j_bipush (v := (-4 : Int32)) C dX6_order_43 (by decide) ?_
        refine j_istore (lv' := [(4, .int (-4 : Int32)), (3, .int v25), (0, .ref (eA E 64)), (1, .int a1), (2, .int a2)]) C 4 dX6_order_45 (by decide) rfl ?_
        refine j_iconst (v := (0 : Int32)) C dX6_order_47 (by decide) ?_
        refine j_istore (lv' := [(5, .int (0 : Int32)), (4, .int (-4 : Int32)), (3, .int v25), (0, .ref (eA E 64)), (1, .int a1), (2, .int a2)]) C 5 dX6_order_48 (by decide) rfl ?_
        exact j_sub (lv' := [(0, .ref (eA E 64)), (1, .int a1), (2, .int a2), (3, .int v25), (4, .int (-4 : Int32)), (5, .int (0 : Int32))]) [3, 4, 5, 2, 1, 0] rfl h
      · replace h := h.2 c22
        refine j_bipush (v := (-2 : Int32)) C dX6_order_23 (by decide) ?_
        exact j_iret C dX6_order_25 h
    · replace h := h.2 c19
      refine j_iconst (v := (-1 : Int32)) C dX6_order_14 (by decide) ?_
      exact j_iret C dX6_order_15 h
def wp_X6_stool (a1 : Int32) (a2 : Int32) (σ : Mem) (Q : Int32 → Mem → Prop) : Prop :=
  ∀ (P58 : Int32 → Int32 → Int32 → Mem → Prop) (P117 : Int32 → Int32 → Int32 → Int32 → Mem → Prop) (P131 : Int32 → Int32 → Int32 → Mem → Prop),
  (∀ (x3 : Int32) (x4 : Int32) (x5 : Int32) (σ : Mem), (((σ.1 65 ((24 : Int32)).toNatClampNeg) ≤ x5 → (¬ x4 = (-4 : Int32) → (¬ a2 = 0 → Q x3 σ) ∧ (a2 = 0 → Q x4 σ)) ∧ (x4 = (-4 : Int32) → Q (-4 : Int32) σ)) ∧ (¬ (σ.1 65 ((24 : Int32)).toNatClampNeg) ≤ x5 → wp_X6_starts σ (fun σ4 => wp_X6_becomesOf x5 (0 : Int32) (3 : Int32) σ4 (fun σ5 => wp_X6_reignsGo a1 σ5 (fun σ6 => ∀ v7 : Int32, v7 = ((σ6.1 66 ((35 : Int32)).toNatClampNeg) - (σ6.1 65 ((35 : Int32)).toNatClampNeg)) → (x3 ≤ v7 → P117 x3 x5 v7 x4 σ6) ∧ (¬ x3 ≤ v7 → P117 x3 x5 v7 x5 σ6)))))) → P58 x3 x4 x5 σ) →
  (∀ (x3 : Int32) (x5 : Int32) (x6 : Int32) (s0 : Int32) (σ : Mem), ((x3 ≤ x6 → P131 s0 x5 x3 σ) ∧ (¬ x3 ≤ x6 → P131 s0 x5 x6 σ)) → P117 x3 x5 x6 s0 σ) →
  (∀ (x4 : Int32) (x5 : Int32) (s0 : Int32) (σ : Mem), (∀ v10 : Int32, v10 = x5 + (1 : Int32) → P58 s0 x4 v10 σ) → P131 x4 x5 s0 σ) →
  wp_X6_isFar a1 σ (fun r12 σ11 => (r12 = 0 → Q (-1 : Int32) σ11) ∧ (¬ r12 = 0 → wp_X6_isPart a2 σ11 (fun r15 σ14 => (¬ r15 = 0 → wp_X6_areTwo σ14 (fun r18 σ17 => (¬ r18 = 0 → wp_X6_starts σ17 (fun σ20 => wp_X6_reignsGo a1 σ20 (fun σ21 => ∀ v22 : Int32, v22 = ((σ21.1 66 ((35 : Int32)).toNatClampNeg) - (σ21.1 65 ((35 : Int32)).toNatClampNeg)) → P58 v22 (-4 : Int32) (0 : Int32) σ21))) ∧ (r18 = 0 → Q (-2 : Int32) σ17))) ∧ (r15 = 0 → Q (-1 : Int32) σ14))))
theorem in_X6_stool_X6 : ∀ w ∈ wsX60, w ∈ wsX6_stool := fun _ h => List.mem_cons_of_mem _ (List.mem_append_right _ h)
def rmX6_stool : Room := { frames := 4, cells := 0, slots := 0, locals := 89 }
theorem hdX6_stool : yX6_stool.cls = RX6 ∧ yX6_stool.cls ≠ "java/lang/invoke/MethodHandle" ∧ yX6_stool.cls ≠ "java/lang/invoke/VarHandle" ∧ (parseMethodDescriptor yX6_stool.desc).map (fun d => d.parameters.length) = some 2 := by decide +kernel
set_option maxHeartbeats 4000000 in
set_option maxRecDepth 100000 in
theorem c_X6_stool {l : Launch} {E : EE} {a1 : Int32} {a2 : Int32}  {σ : Mem} {Q : Int32 → Mem → Prop} (h : wp_X6_stool a1 a2 σ Q) : CtI l yX6_stool wsX6_stool rmX6_stool E [.ref (eA E 64), .int a1, .int a2] σ Q := by
  refine metI (cc := cX6_stool) (nL := 7) (ret := (some .int)) (lv := [(0, .ref (eA E 64)), (1, .int a1), (2, .int a2)]) (by decide) rfl (Nat.le_of_ble_eq_true rfl) rfl ?_
  intro p e s m args below meth c C
  unfold wp_X6_stool at h
  replace h := h (fun (x3 : Int32) (x4 : Int32) (x5 : Int32) (σ : Mem) => J E p l e rmX6_stool s m args below meth c (QI E below args s Q) 7 58 [(0, .ref (eA E 64)), (1, .int a1), (2, .int a2), (3, .int x3), (4, .int x4), (5, .int x5)] [] σ) (fun (x3 : Int32) (x5 : Int32) (x6 : Int32) (s0 : Int32) (σ : Mem) => J E p l e rmX6_stool s m args below meth c (QI E below args s Q) 7 117 [(0, .ref (eA E 64)), (1, .int a1), (2, .int a2), (3, .int x3), (5, .int x5), (6, .int x6)] [.int s0] σ) (fun (x4 : Int32) (x5 : Int32) (s0 : Int32) (σ : Mem) => J E p l e rmX6_stool s m args below meth c (QI E below args s Q) 7 131 [(0, .ref (eA E 64)), (1, .int a1), (2, .int a2), (4, .int x4), (5, .int x5)] [.int s0] σ) (by
    intro x3 x4 x5 σ h
    refine j_iload C 5 dX6_stool_58 5 rfl ?_
    refine j_aload_n C 0 dX6_stool_60 rfl 0 rfl ?_
    refine j_getR C 65 64 0 rfl rfl rfl in_X6_stool_X6 (by decide) (by decide +kernel) dX6_stool_61 ?_
    refine j_bipush (v := (24 : Int32)) C dX6_stool_64 (by decide) ?_
    refine j_iald C 65 rfl dX6_stool_66 (in_lit rfl) ?_
    refine j_icmp_ge C 138 dX6_stool_67 (by decide) (fun c1 => ?_) (fun c1 => ?_)
    · replace h := h.1 c1
      refine j_iload C 4 dX6_stool_138 4 rfl ?_
      refine j_bipush (v := (-4 : Int32)) C dX6_stool_140 (by decide) ?_
      refine j_icmp_ne C 150 dX6_stool_142 (by decide) (fun c2 => ?_) (fun c2 => ?_)
      · replace h := h.1 c2
        refine j_iload_n C 2 dX6_stool_150 rfl 2 rfl ?_
        refine j_if_ne C 159 dX6_stool_151 (by decide) (fun c3 => ?_) (fun c3 => ?_)
        · replace h := h.1 c3
          refine j_iload_n C 3 dX6_stool_159 rfl 3 rfl ?_
          exact j_iret C dX6_stool_160 h
        · replace h := h.2 c3
          refine j_iload C 4 dX6_stool_154 4 rfl ?_
          refine j_goto C 160 dX6_stool_156 (by decide) ?_
          exact j_iret C dX6_stool_160 h
      · replace h := h.2 c2
        refine j_bipush (v := (-4 : Int32)) C dX6_stool_145 (by decide) ?_
        refine j_goto C 160 dX6_stool_147 (by decide) ?_
        exact j_iret C dX6_stool_160 h
    · replace h := h.2 c1
      refine j_aload_n C 0 dX6_stool_70 rfl 0 rfl ?_
      refine j_callVV (As := []) (rest := []) C 64 (c_X6_starts h) (cwV 0 C.2.2.2.2.2.1 gX6_stool_X6_starts rfl rfl rfl hdX6_starts ⟨Nat.le_of_ble_eq_true rfl, Nat.le_of_ble_eq_true rfl⟩) rfl rfl rfl rfl (Nat.le_of_ble_eq_true rfl) dX6_stool_71 (fun σ4 h => ?_)
      refine j_aload_n C 0 dX6_stool_74 rfl 0 rfl ?_
      refine j_iload C 5 dX6_stool_75 5 rfl ?_
      refine j_iconst (v := (0 : Int32)) C dX6_stool_77 (by decide) ?_
      refine j_iconst (v := (3 : Int32)) C dX6_stool_78 (by decide) ?_
      refine j_callVV (As := [.int x5, .int (0 : Int32), .int (3 : Int32)]) (rest := []) C 64 (c_X6_becomesOf h) (cwV 3 C.2.2.2.2.2.1 gX6_stool_X6_becomesOf rfl rfl rfl hdX6_becomesOf ⟨Nat.le_of_ble_eq_true rfl, Nat.le_of_ble_eq_true rfl⟩) rfl rfl rfl rfl (Nat.le_of_ble_eq_true rfl) dX6_stool_79 (fun σ5 h => ?_)
      refine j_aload_n C 0 dX6_stool_82 rfl 0 rfl ?_
      refine j_iload_n C 1 dX6_stool_83 rfl 1 rfl ?_
      refine j_callVV (As := [.int a1]) (rest := []) C 64 (c_X6_reignsGo h) (cwV 1 C.2.2.2.2.2.1 gX6_stool_X6_reignsGo rfl rfl rfl hdX6_reignsGo ⟨Nat.le_of_ble_eq_true rfl, Nat.le_of_ble_eq_true rfl⟩) rfl rfl rfl rfl (Nat.le_of_ble_eq_true rfl) dX6_stool_84 (fun σ6 h => ?_)
      refine j_aload_n C 0 dX6_stool_87 rfl 0 rfl ?_
      refine j_getR C 66 64 1 rfl rfl rfl in_X6_stool_X6 (by decide) (by decide +kernel) dX6_stool_88 ?_
      refine j_bipush (v := (35 : Int32)) C dX6_stool_91 (by decide) ?_
      refine j_iald C 66 rfl dX6_stool_93 (in_lit rfl) ?_
      refine j_aload_n C 0 dX6_stool_94 rfl 0 rfl ?_
      refine j_getR C 65 64 0 rfl rfl rfl in_X6_stool_X6 (by decide) (by decide +kernel) dX6_stool_95 ?_
      refine j_bipush (v := (35 : Int32)) C dX6_stool_98 (by decide) ?_
      refine j_iald C 65 rfl dX6_stool_100 (in_lit rfl) ?_
      refine j_isub C dX6_stool_101 ?_
      refine j_topi (fun v7 ev7 => ?_)
      replace h := h v7 ev7
      refine j_istore (lv' := [(6, .int v7), (0, .ref (eA E 64)), (1, .int a1), (2, .int a2), (3, .int x3), (4, .int x4), (5, .int x5)]) C 6 dX6_stool_102 (by decide) rfl ?_
      refine j_iload C 6 dX6_stool_104 0 rfl ?_
      refine j_iload_n C 3 dX6_stool_106 rfl 4 rfl ?_
      refine j_icmp_ge C 115 dX6_stool_107 (by decide) (fun c8 => ?_) (fun c8 => ?_)
      · replace h := h.1 c8
        refine j_iload C 4 dX6_stool_115 5 rfl ?_
        exact j_sub (lv' := [(0, .ref (eA E 64)), (1, .int a1), (2, .int a2), (3, .int x3), (5, .int x5), (6, .int v7)]) [1, 2, 3, 4, 6, 0] rfl h
      · replace h := h.2 c8
        refine j_iload C 5 dX6_stool_110 6 rfl ?_
        refine j_goto C 117 dX6_stool_112 (by decide) ?_
        exact j_sub (lv' := [(0, .ref (eA E 64)), (1, .int a1), (2, .int a2), (3, .int x3), (5, .int x5), (6, .int v7)]) [1, 2, 3, 4, 6, 0] rfl h) (by
    intro x3 x5 x6 s0 σ h
    refine j_istore (lv' := [(4, .int s0), (0, .ref (eA E 64)), (1, .int a1), (2, .int a2), (3, .int x3), (5, .int x5), (6, .int x6)]) C 4 dX6_stool_117 (by decide) rfl ?_
    refine j_iload C 6 dX6_stool_119 6 rfl ?_
    refine j_iload_n C 3 dX6_stool_121 rfl 4 rfl ?_
    refine j_icmp_ge C 130 dX6_stool_122 (by decide) (fun c9 => ?_) (fun c9 => ?_)
    · replace h := h.1 c9
      refine j_iload_n C 3 dX6_stool_130 rfl 4 rfl ?_
      exact j_sub (lv' := [(0, .ref (eA E 64)), (1, .int a1), (2, .int a2), (4, .int s0), (5, .int x5)]) [1, 2, 3, 0, 5] rfl h
    · replace h := h.2 c9
      refine j_iload C 6 dX6_stool_125 6 rfl ?_
      refine j_goto C 131 dX6_stool_127 (by decide) ?_
      exact j_sub (lv' := [(0, .ref (eA E 64)), (1, .int a1), (2, .int a2), (4, .int s0), (5, .int x5)]) [1, 2, 3, 0, 5] rfl h) (by
    intro x4 x5 s0 σ h
    refine j_istore_n (lv' := [(3, .int s0), (0, .ref (eA E 64)), (1, .int a1), (2, .int a2), (4, .int x4), (5, .int x5)]) C 3 dX6_stool_131 rfl (by decide) rfl ?_
    obtain ⟨v10, ev10⟩ : ∃ y : Int32, y = x5 + (1 : Int32) := ⟨_, rfl⟩
    replace h := h v10 ev10
    refine j_iinc (v := v10) (lv' := [(5, .int v10), (3, .int s0), (0, .ref (eA E 64)), (1, .int a1), (2, .int a2), (4, .int x4)]) C 5 dX6_stool_132 5 rfl (by rw [ev10]; rfl) (by decide) rfl ?_
    refine j_goto C 58 dX6_stool_135 (by decide) ?_
    exact j_sub (lv' := [(0, .ref (eA E 64)), (1, .int a1), (2, .int a2), (3, .int s0), (4, .int x4), (5, .int v10)]) [2, 3, 4, 1, 5, 0] rfl h)
  refine j_iload_n C 1 dX6_stool_0 rfl 1 rfl ?_
  refine j_callSI (As := [.int a1]) (rest := []) C (c_X6_isFar h) (va_cwS 1 C.2.2.2.2.2.1 gX6_stool_X6_isFar rfl rfl rfl hdX6_isFar.2 ⟨Nat.le_of_ble_eq_true rfl, Nat.le_of_ble_eq_true rfl⟩) rfl rfl (Nat.le_of_ble_eq_true rfl) dX6_stool_1 (fun r12 σ11 h => ?_)
  refine j_if_eq C 14 dX6_stool_4 (by decide) (fun c13 => ?_) (fun c13 => ?_)
  · replace h := h.1 c13
    refine j_iconst (v := (-1 : Int32)) C dX6_stool_14 (by decide) ?_
    exact j_iret C dX6_stool_15 h
  · replace h := h.2 c13
    refine j_iload_n C 2 dX6_stool_7 rfl 2 rfl ?_
    refine j_callSI (As := [.int a2]) (rest := []) C (c_X6_isPart h) (va_cwS 1 C.2.2.2.2.2.1 gX6_stool_X6_isPart rfl rfl rfl hdX6_isPart.2 ⟨Nat.le_of_ble_eq_true rfl, Nat.le_of_ble_eq_true rfl⟩) rfl rfl (Nat.le_of_ble_eq_true rfl) dX6_stool_8 (fun r15 σ14 h => ?_)
    refine j_if_ne C 16 dX6_stool_11 (by decide) (fun c16 => ?_) (fun c16 => ?_)
    · replace h := h.1 c16
      refine j_aload_n C 0 dX6_stool_16 rfl 0 rfl ?_
      refine j_callVI (As := []) (rest := []) C 64 (c_X6_areTwo h) (cwV 0 C.2.2.2.2.2.1 gX6_stool_X6_areTwo rfl rfl rfl hdX6_areTwo ⟨Nat.le_of_ble_eq_true rfl, Nat.le_of_ble_eq_true rfl⟩) rfl rfl rfl rfl (Nat.le_of_ble_eq_true rfl) dX6_stool_17 (fun r18 σ17 h => ?_)
      refine j_if_ne C 26 dX6_stool_20 (by decide) (fun c19 => ?_) (fun c19 => ?_)
      · replace h := h.1 c19
        refine j_aload_n C 0 dX6_stool_26 rfl 0 rfl ?_
        refine j_callVV (As := []) (rest := []) C 64 (c_X6_starts h) (cwV 0 C.2.2.2.2.2.1 gX6_stool_X6_starts rfl rfl rfl hdX6_starts ⟨Nat.le_of_ble_eq_true rfl, Nat.le_of_ble_eq_true rfl⟩) rfl rfl rfl rfl (Nat.le_of_ble_eq_true rfl) dX6_stool_27 (fun σ20 h => ?_)
        refine j_aload_n C 0 dX6_stool_30 rfl 0 rfl ?_
        refine j_iload_n C 1 dX6_stool_31 rfl 1 rfl ?_
        refine j_callVV (As := [.int a1]) (rest := []) C 64 (c_X6_reignsGo h) (cwV 1 C.2.2.2.2.2.1 gX6_stool_X6_reignsGo rfl rfl rfl hdX6_reignsGo ⟨Nat.le_of_ble_eq_true rfl, Nat.le_of_ble_eq_true rfl⟩) rfl rfl rfl rfl (Nat.le_of_ble_eq_true rfl) dX6_stool_32 (fun σ21 h => ?_)
        refine j_aload_n C 0 dX6_stool_35 rfl 0 rfl ?_
        refine j_getR C 66 64 1 rfl rfl rfl in_X6_stool_X6 (by decide) (by decide +kernel) dX6_stool_36 ?_
        refine j_bipush (v := (35 : Int32)) C dX6_stool_39 (by decide) ?_
        refine j_iald C 66 rfl dX6_stool_41 (in_lit rfl) ?_
        refine j_aload_n C 0 dX6_stool_42 rfl 0 rfl ?_
        refine j_getR C 65 64 0 rfl rfl rfl in_X6_stool_X6 (by decide) (by decide +kernel) dX6_stool_43 ?_
        refine j_bipush (v := (35 : Int32)) C dX6_stool_46 (by decide) ?_
        refine j_iald C 65 rfl dX6_stool_48 (in_lit rfl) ?_
        refine j_isub C dX6_stool_49 ?_
        refine j_topi (fun v22 ev22 => ?_)
        replace h := h v22 ev22
        refine j_istore_n (lv' := [(3, .int v22), (0, .ref (eA E 64)), (1, .int a1), (2, .int a2)]) C 3 dX6_stool_50 rfl (by decide) rfl ?_
        refine j_bipush (v := (-4 : Int32)) C dX6_stool_51 (by decide) ?_
        refine j_istore (lv' := [(4, .int (-4 : Int32)), (3, .int v22), (0, .ref (eA E 64)), (1, .int a1), (2, .int a2)]) C 4 dX6_stool_53 (by decide) rfl ?_
        refine j_iconst (v := (0 : Int32)) C dX6_stool_55 (by decide) ?_
        refine j_istore (lv' := [(5, .int (0 : Int32)), (4, .int (-4 : Int32)), (3, .int v22), (0, .ref (eA E 64)), (1, .int a1), (2, .int a2)]) C 5 dX6_stool_56 (by decide) rfl ?_
        exact j_sub (lv' := [(0, .ref (eA E 64)), (1, .int a1), (2, .int a2), (3, .int v22), (4, .int (-4 : Int32)), (5, .int (0 : Int32))]) [3, 4, 5, 2, 1, 0] rfl h
      · replace h := h.2 c19
        refine j_bipush (v := (-2 : Int32)) C dX6_stool_23 (by decide) ?_
        exact j_iret C dX6_stool_25 h
    · replace h := h.2 c16
      refine j_iconst (v := (-1 : Int32)) C dX6_stool_14 (by decide) ?_
      exact j_iret C dX6_stool_15 h
def wp_X6_bestOf (a1 : Int32) (a2 : Int32) (a3 : Int32) (a4 : Int32) (a5 : Int32) (σ : Mem) (Q : Int32 → Mem → Prop) : Prop :=
  ∀ (P9 : Int32 → Int32 → Int32 → Mem → Prop) (P52 : Int32 → Int32 → Int32 → Mem → Prop) (P78 : Int32 → Int32 → Int32 → Mem → Prop),
  (∀ (x6 : Int32) (x7 : Int32) (x8 : Int32) (σ : Mem), ((a3 < x8 → (¬ a5 = 0 → Q x6 σ) ∧ (a5 = 0 → Q x7 σ)) ∧ (¬ a3 < x8 → wp_X6_starts σ (fun σ3 => vp_in a1 49 ∧ (∀ σ4 : Mem, σ4 = st1 σ3 66 (a1).toNatClampNeg x8 → wp_X6_reignsGo a4 σ4 (fun σ5 => ((σ5.1 66 ((32 : Int32)).toNatClampNeg) ≤ x6 → P52 x6 x8 x7 σ5) ∧ (¬ (σ5.1 66 ((32 : Int32)).toNatClampNeg) ≤ x6 → P52 x6 x8 x8 σ5)))))) → P9 x6 x7 x8 σ) →
  (∀ (x6 : Int32) (x8 : Int32) (s0 : Int32) (σ : Mem), (((σ.1 66 ((32 : Int32)).toNatClampNeg) ≤ x6 → P78 s0 x8 x6 σ) ∧ (¬ (σ.1 66 ((32 : Int32)).toNatClampNeg) ≤ x6 → P78 s0 x8 ((σ.1 66 ((32 : Int32)).toNatClampNeg)) σ)) → P52 x6 x8 s0 σ) →
  (∀ (x7 : Int32) (x8 : Int32) (s0 : Int32) (σ : Mem), (∀ v8 : Int32, v8 = x8 + (1 : Int32) → P9 s0 x7 v8 σ) → P78 x7 x8 s0 σ) →
  P9 (-1 : Int32) a2 a2 σ
theorem in_X6_bestOf_X6 : ∀ w ∈ wsX60, w ∈ wsX6_bestOf := fun _ h => List.mem_cons_of_mem _ (List.mem_append_right _ h)
def rmX6_bestOf : Room := { frames := 4, cells := 0, slots := 0, locals := 89 }
theorem hdX6_bestOf : yX6_bestOf.cls = RX6 ∧ yX6_bestOf.cls ≠ "java/lang/invoke/MethodHandle" ∧ yX6_bestOf.cls ≠ "java/lang/invoke/VarHandle" ∧ (parseMethodDescriptor yX6_bestOf.desc).map (fun d => d.parameters.length) = some 5 := by decide +kernel
set_option maxHeartbeats 4000000 in
set_option maxRecDepth 100000 in
theorem c_X6_bestOf {l : Launch} {E : EE} {a1 : Int32} {a2 : Int32} {a3 : Int32} {a4 : Int32} {a5 : Int32}  {σ : Mem} {Q : Int32 → Mem → Prop} (h : wp_X6_bestOf a1 a2 a3 a4 a5 σ Q) : CtI l yX6_bestOf wsX6_bestOf rmX6_bestOf E [.ref (eA E 64), .int a1, .int a2, .int a3, .int a4, .int a5] σ Q := by
  refine metI (cc := cX6_bestOf) (nL := 9) (ret := (some .int)) (lv := [(0, .ref (eA E 64)), (1, .int a1), (2, .int a2), (3, .int a3), (4, .int a4), (5, .int a5)]) (by decide) rfl (Nat.le_of_ble_eq_true rfl) rfl ?_
  intro p e s m args below meth c C
  unfold wp_X6_bestOf at h
  replace h := h (fun (x6 : Int32) (x7 : Int32) (x8 : Int32) (σ : Mem) => J E p l e rmX6_bestOf s m args below meth c (QI E below args s Q) 9 9 [(0, .ref (eA E 64)), (1, .int a1), (3, .int a3), (4, .int a4), (5, .int a5), (6, .int x6), (7, .int x7), (8, .int x8)] [] σ) (fun (x6 : Int32) (x8 : Int32) (s0 : Int32) (σ : Mem) => J E p l e rmX6_bestOf s m args below meth c (QI E below args s Q) 9 52 [(0, .ref (eA E 64)), (1, .int a1), (3, .int a3), (4, .int a4), (5, .int a5), (6, .int x6), (8, .int x8)] [.int s0] σ) (fun (x7 : Int32) (x8 : Int32) (s0 : Int32) (σ : Mem) => J E p l e rmX6_bestOf s m args below meth c (QI E below args s Q) 9 78 [(0, .ref (eA E 64)), (1, .int a1), (3, .int a3), (4, .int a4), (5, .int a5), (7, .int x7), (8, .int x8)] [.int s0] σ) (by
    intro x6 x7 x8 σ h
    refine j_iload C 8 dX6_bestOf_9 7 rfl ?_
    refine j_iload_n C 3 dX6_bestOf_11 rfl 2 rfl ?_
    refine j_icmp_gt C 86 dX6_bestOf_12 (by decide) (fun c1 => ?_) (fun c1 => ?_)
    · replace h := h.1 c1
      refine j_iload C 5 dX6_bestOf_86 4 rfl ?_
      refine j_if_ne C 96 dX6_bestOf_88 (by decide) (fun c2 => ?_) (fun c2 => ?_)
      · replace h := h.1 c2
        refine j_iload C 6 dX6_bestOf_96 5 rfl ?_
        exact j_iret C dX6_bestOf_98 h
      · replace h := h.2 c2
        refine j_iload C 7 dX6_bestOf_91 6 rfl ?_
        refine j_goto C 98 dX6_bestOf_93 (by decide) ?_
        exact j_iret C dX6_bestOf_98 h
    · replace h := h.2 c1
      refine j_aload_n C 0 dX6_bestOf_15 rfl 0 rfl ?_
      refine j_callVV (As := []) (rest := []) C 64 (c_X6_starts h) (cwV 0 C.2.2.2.2.2.1 gX6_bestOf_X6_starts rfl rfl rfl hdX6_starts ⟨Nat.le_of_ble_eq_true rfl, Nat.le_of_ble_eq_true rfl⟩) rfl rfl rfl rfl (Nat.le_of_ble_eq_true rfl) dX6_bestOf_16 (fun σ3 h => ?_)
      refine j_aload_n C 0 dX6_bestOf_19 rfl 0 rfl ?_
      refine j_getR C 66 64 1 rfl rfl rfl in_X6_bestOf_X6 (by decide) (by decide +kernel) dX6_bestOf_20 ?_
      refine j_iload_n C 1 dX6_bestOf_23 rfl 1 rfl ?_
      refine j_iload C 8 dX6_bestOf_24 7 rfl ?_
      refine j_iast C 66 rfl dX6_bestOf_26 h.1 ?_
      replace h := h.2
      refine j_mem (fun σ4 eσ4 => ?_)
      replace h := h σ4 eσ4
      refine j_aload_n C 0 dX6_bestOf_27 rfl 0 rfl ?_
      refine j_iload C 4 dX6_bestOf_28 3 rfl ?_
      refine j_callVV (As := [.int a4]) (rest := []) C 64 (c_X6_reignsGo h) (cwV 1 C.2.2.2.2.2.1 gX6_bestOf_X6_reignsGo rfl rfl rfl hdX6_reignsGo ⟨Nat.le_of_ble_eq_true rfl, Nat.le_of_ble_eq_true rfl⟩) rfl rfl rfl rfl (Nat.le_of_ble_eq_true rfl) dX6_bestOf_30 (fun σ5 h => ?_)
      refine j_aload_n C 0 dX6_bestOf_33 rfl 0 rfl ?_
      refine j_getR C 66 64 1 rfl rfl rfl in_X6_bestOf_X6 (by decide) (by decide +kernel) dX6_bestOf_34 ?_
      refine j_bipush (v := (32 : Int32)) C dX6_bestOf_37 (by decide) ?_
      refine j_iald C 66 rfl dX6_bestOf_39 (in_lit rfl) ?_
      refine j_iload C 6 dX6_bestOf_40 5 rfl ?_
      refine j_icmp_le C 50 dX6_bestOf_42 (by decide) (fun c6 => ?_) (fun c6 => ?_)
      · replace h := h.1 c6
        refine j_iload C 7 dX6_bestOf_50 6 rfl ?_
        exact j_sub (lv' := [(0, .ref (eA E 64)), (1, .int a1), (3, .int a3), (4, .int a4), (5, .int a5), (6, .int x6), (8, .int x8)]) [0, 1, 2, 3, 4, 5, 7] rfl h
      · replace h := h.2 c6
        refine j_iload C 8 dX6_bestOf_45 7 rfl ?_
        refine j_goto C 52 dX6_bestOf_47 (by decide) ?_
        exact j_sub (lv' := [(0, .ref (eA E 64)), (1, .int a1), (3, .int a3), (4, .int a4), (5, .int a5), (6, .int x6), (8, .int x8)]) [0, 1, 2, 3, 4, 5, 7] rfl h) (by
    intro x6 x8 s0 σ h
    refine j_istore (lv' := [(7, .int s0), (0, .ref (eA E 64)), (1, .int a1), (3, .int a3), (4, .int a4), (5, .int a5), (6, .int x6), (8, .int x8)]) C 7 dX6_bestOf_52 (by decide) rfl ?_
    refine j_aload_n C 0 dX6_bestOf_54 rfl 1 rfl ?_
    refine j_getR C 66 64 1 rfl rfl rfl in_X6_bestOf_X6 (by decide) (by decide +kernel) dX6_bestOf_55 ?_
    refine j_bipush (v := (32 : Int32)) C dX6_bestOf_58 (by decide) ?_
    refine j_iald C 66 rfl dX6_bestOf_60 (in_lit rfl) ?_
    refine j_iload C 6 dX6_bestOf_61 6 rfl ?_
    refine j_icmp_le C 76 dX6_bestOf_63 (by decide) (fun c7 => ?_) (fun c7 => ?_)
    · replace h := h.1 c7
      refine j_iload C 6 dX6_bestOf_76 6 rfl ?_
      exact j_sub (lv' := [(0, .ref (eA E 64)), (1, .int a1), (3, .int a3), (4, .int a4), (5, .int a5), (7, .int s0), (8, .int x8)]) [1, 2, 3, 4, 5, 0, 7] rfl h
    · replace h := h.2 c7
      refine j_aload_n C 0 dX6_bestOf_66 rfl 1 rfl ?_
      refine j_getR C 66 64 1 rfl rfl rfl in_X6_bestOf_X6 (by decide) (by decide +kernel) dX6_bestOf_67 ?_
      refine j_bipush (v := (32 : Int32)) C dX6_bestOf_70 (by decide) ?_
      refine j_iald C 66 rfl dX6_bestOf_72 (in_lit rfl) ?_
      refine j_goto C 78 dX6_bestOf_73 (by decide) ?_
      exact j_sub (lv' := [(0, .ref (eA E 64)), (1, .int a1), (3, .int a3), (4, .int a4), (5, .int a5), (7, .int s0), (8, .int x8)]) [1, 2, 3, 4, 5, 0, 7] rfl h) (by
    intro x7 x8 s0 σ h
    refine j_istore (lv' := [(6, .int s0), (0, .ref (eA E 64)), (1, .int a1), (3, .int a3), (4, .int a4), (5, .int a5), (7, .int x7), (8, .int x8)]) C 6 dX6_bestOf_78 (by decide) rfl ?_
    obtain ⟨v8, ev8⟩ : ∃ y : Int32, y = x8 + (1 : Int32) := ⟨_, rfl⟩
    replace h := h v8 ev8
    refine j_iinc (v := v8) (lv' := [(8, .int v8), (6, .int s0), (0, .ref (eA E 64)), (1, .int a1), (3, .int a3), (4, .int a4), (5, .int a5), (7, .int x7)]) C 8 dX6_bestOf_80 7 rfl (by rw [ev8]; rfl) (by decide) rfl ?_
    refine j_goto C 9 dX6_bestOf_83 (by decide) ?_
    exact j_sub (lv' := [(0, .ref (eA E 64)), (1, .int a1), (3, .int a3), (4, .int a4), (5, .int a5), (6, .int s0), (7, .int x7), (8, .int v8)]) [2, 3, 4, 5, 6, 1, 7, 0] rfl h)
  refine j_iconst (v := (-1 : Int32)) C dX6_bestOf_0 (by decide) ?_
  refine j_istore (lv' := [(6, .int (-1 : Int32)), (0, .ref (eA E 64)), (1, .int a1), (2, .int a2), (3, .int a3), (4, .int a4), (5, .int a5)]) C 6 dX6_bestOf_1 (by decide) rfl ?_
  refine j_iload_n C 2 dX6_bestOf_3 rfl 3 rfl ?_
  refine j_istore (lv' := [(7, .int a2), (6, .int (-1 : Int32)), (0, .ref (eA E 64)), (1, .int a1), (2, .int a2), (3, .int a3), (4, .int a4), (5, .int a5)]) C 7 dX6_bestOf_4 (by decide) rfl ?_
  refine j_iload_n C 2 dX6_bestOf_6 rfl 4 rfl ?_
  refine j_istore (lv' := [(8, .int a2), (7, .int a2), (6, .int (-1 : Int32)), (0, .ref (eA E 64)), (1, .int a1), (2, .int a2), (3, .int a3), (4, .int a4), (5, .int a5)]) C 8 dX6_bestOf_7 (by decide) rfl ?_
  exact j_sub (lv' := [(0, .ref (eA E 64)), (1, .int a1), (3, .int a3), (4, .int a4), (5, .int a5), (6, .int (-1 : Int32)), (7, .int a2), (8, .int a2)]) [3, 4, 6, 7, 8, 2, 1, 0] rfl h
def wp_X6_term (a1 : Int32) (a2 : Int32) (a3 : Int32) (σ : Mem) (Q : Int32 → Mem → Prop) : Prop :=
  wp_X6_isHeir a1 σ (fun r2 σ1 => (r2 = 0 → Q (-1 : Int32) σ1) ∧ (¬ r2 = 0 → wp_X6_isFar a2 σ1 (fun r5 σ4 => (r5 = 0 → Q (-1 : Int32) σ4) ∧ (¬ r5 = 0 → wp_X6_isPart a3 σ4 (fun r8 σ7 => (¬ r8 = 0 → wp_X6_areTwo σ7 (fun r11 σ10 => (r11 = 0 → Q (-2 : Int32) σ10) ∧ (¬ r11 = 0 → wp_X6_bestOf ((((4 : Int32) * a1) + (3 : Int32))) (1 : Int32) (30 : Int32) a2 a3 σ10 (fun r14 σ13 => Q r14 σ13)))) ∧ (r8 = 0 → Q (-1 : Int32) σ7))))))
def rmX6_term : Room := { frames := 5, cells := 0, slots := 0, locals := 117 }
theorem hdX6_term : yX6_term.cls = RX6 ∧ yX6_term.cls ≠ "java/lang/invoke/MethodHandle" ∧ yX6_term.cls ≠ "java/lang/invoke/VarHandle" ∧ (parseMethodDescriptor yX6_term.desc).map (fun d => d.parameters.length) = some 3 := by decide +kernel
set_option maxHeartbeats 4000000 in
set_option maxRecDepth 100000 in
theorem c_X6_term {l : Launch} {E : EE} {a1 : Int32} {a2 : Int32} {a3 : Int32}  {σ : Mem} {Q : Int32 → Mem → Prop} (h : wp_X6_term a1 a2 a3 σ Q) : CtI l yX6_term wsX6_term rmX6_term E [.ref (eA E 64), .int a1, .int a2, .int a3] σ Q := by
  refine metI (cc := cX6_term) (nL := 4) (ret := (some .int)) (lv := [(0, .ref (eA E 64)), (1, .int a1), (2, .int a2), (3, .int a3)]) (by decide) rfl (Nat.le_of_ble_eq_true rfl) rfl ?_
  intro p e s m args below meth c C
  unfold wp_X6_term at h
  refine j_aload_n C 0 dX6_term_0 rfl 0 rfl ?_
  refine j_iload_n C 1 dX6_term_1 rfl 1 rfl ?_
  refine j_callVI (As := [.int a1]) (rest := []) C 64 (c_X6_isHeir h) (cwV 1 C.2.2.2.2.2.1 gX6_term_X6_isHeir rfl rfl rfl hdX6_isHeir ⟨Nat.le_of_ble_eq_true rfl, Nat.le_of_ble_eq_true rfl⟩) rfl rfl rfl rfl (Nat.le_of_ble_eq_true rfl) dX6_term_2 (fun r2 σ1 h => ?_)
  refine j_if_eq C 22 dX6_term_5 (by decide) (fun c3 => ?_) (fun c3 => ?_)
  · replace h := h.1 c3
    refine j_iconst (v := (-1 : Int32)) C dX6_term_22 (by decide) ?_
    exact j_iret C dX6_term_23 h
  · replace h := h.2 c3
    refine j_iload_n C 2 dX6_term_8 rfl 2 rfl ?_
    refine j_callSI (As := [.int a2]) (rest := []) C (c_X6_isFar h) (va_cwS 1 C.2.2.2.2.2.1 gX6_term_X6_isFar rfl rfl rfl hdX6_isFar.2 ⟨Nat.le_of_ble_eq_true rfl, Nat.le_of_ble_eq_true rfl⟩) rfl rfl (Nat.le_of_ble_eq_true rfl) dX6_term_9 (fun r5 σ4 h => ?_)
    refine j_if_eq C 22 dX6_term_12 (by decide) (fun c6 => ?_) (fun c6 => ?_)
    · replace h := h.1 c6
      refine j_iconst (v := (-1 : Int32)) C dX6_term_22 (by decide) ?_
      exact j_iret C dX6_term_23 h
    · replace h := h.2 c6
      refine j_iload_n C 3 dX6_term_15 rfl 3 rfl ?_
      refine j_callSI (As := [.int a3]) (rest := []) C (c_X6_isPart h) (va_cwS 1 C.2.2.2.2.2.1 gX6_term_X6_isPart rfl rfl rfl hdX6_isPart.2 ⟨Nat.le_of_ble_eq_true rfl, Nat.le_of_ble_eq_true rfl⟩) rfl rfl (Nat.le_of_ble_eq_true rfl) dX6_term_16 (fun r8 σ7 h => ?_)
      refine j_if_ne C 24 dX6_term_19 (by decide) (fun c9 => ?_) (fun c9 => ?_)
      · replace h := h.1 c9
        refine j_aload_n C 0 dX6_term_24 rfl 0 rfl ?_
        refine j_callVI (As := []) (rest := []) C 64 (c_X6_areTwo h) (cwV 0 C.2.2.2.2.2.1 gX6_term_X6_areTwo rfl rfl rfl hdX6_areTwo ⟨Nat.le_of_ble_eq_true rfl, Nat.le_of_ble_eq_true rfl⟩) rfl rfl rfl rfl (Nat.le_of_ble_eq_true rfl) dX6_term_25 (fun r11 σ10 h => ?_)
        refine j_if_eq C 48 dX6_term_28 (by decide) (fun c12 => ?_) (fun c12 => ?_)
        · replace h := h.1 c12
          refine j_bipush (v := (-2 : Int32)) C dX6_term_48 (by decide) ?_
          exact j_iret C dX6_term_50 h
        · replace h := h.2 c12
          refine j_aload_n C 0 dX6_term_31 rfl 0 rfl ?_
          refine j_iconst (v := (4 : Int32)) C dX6_term_32 (by decide) ?_
          refine j_iload_n C 1 dX6_term_33 rfl 1 rfl ?_
          refine j_imul C dX6_term_34 ?_
          refine j_iconst (v := (3 : Int32)) C dX6_term_35 (by decide) ?_
          refine j_iadd C dX6_term_36 ?_
          refine j_iconst (v := (1 : Int32)) C dX6_term_37 (by decide) ?_
          refine j_bipush (v := (30 : Int32)) C dX6_term_38 (by decide) ?_
          refine j_iload_n C 2 dX6_term_40 rfl 2 rfl ?_
          refine j_iload_n C 3 dX6_term_41 rfl 3 rfl ?_
          refine j_callVI (As := [.int (((4 : Int32) * a1) + (3 : Int32)), .int (1 : Int32), .int (30 : Int32), .int a2, .int a3]) (rest := []) C 64 (c_X6_bestOf h) (cwV 5 C.2.2.2.2.2.1 gX6_term_X6_bestOf rfl rfl rfl hdX6_bestOf ⟨Nat.le_of_ble_eq_true rfl, Nat.le_of_ble_eq_true rfl⟩) rfl rfl rfl rfl (Nat.le_of_ble_eq_true rfl) dX6_term_42 (fun r14 σ13 h => ?_)
          refine j_goto C 50 dX6_term_45 (by decide) ?_
          exact j_iret C dX6_term_50 h
      · replace h := h.2 c9
        refine j_iconst (v := (-1 : Int32)) C dX6_term_22 (by decide) ?_
        exact j_iret C dX6_term_23 h
def wp_X6_ache (a1 : Int32) (a2 : Int32) (σ : Mem) (Q : Int32 → Mem → Prop) : Prop :=
  wp_X6_isFar a1 σ (fun r2 σ1 => (r2 = 0 → Q (-1 : Int32) σ1) ∧ (¬ r2 = 0 → wp_X6_isPart a2 σ1 (fun r5 σ4 => (¬ r5 = 0 → wp_X6_areTwo σ4 (fun r8 σ7 => (r8 = 0 → Q (-2 : Int32) σ7) ∧ (¬ r8 = 0 → wp_X6_bestOf (31 : Int32) (0 : Int32) (9 : Int32) a1 a2 σ7 (fun r11 σ10 => Q r11 σ10)))) ∧ (r5 = 0 → Q (-1 : Int32) σ4))))
def rmX6_ache : Room := { frames := 5, cells := 0, slots := 0, locals := 117 }
theorem hdX6_ache : yX6_ache.cls = RX6 ∧ yX6_ache.cls ≠ "java/lang/invoke/MethodHandle" ∧ yX6_ache.cls ≠ "java/lang/invoke/VarHandle" ∧ (parseMethodDescriptor yX6_ache.desc).map (fun d => d.parameters.length) = some 2 := by decide +kernel
set_option maxHeartbeats 4000000 in
set_option maxRecDepth 100000 in
theorem c_X6_ache {l : Launch} {E : EE} {a1 : Int32} {a2 : Int32}  {σ : Mem} {Q : Int32 → Mem → Prop} (h : wp_X6_ache a1 a2 σ Q) : CtI l yX6_ache wsX6_ache rmX6_ache E [.ref (eA E 64), .int a1, .int a2] σ Q := by
  refine metI (cc := cX6_ache) (nL := 3) (ret := (some .int)) (lv := [(0, .ref (eA E 64)), (1, .int a1), (2, .int a2)]) (by decide) rfl (Nat.le_of_ble_eq_true rfl) rfl ?_
  intro p e s m args below meth c C
  unfold wp_X6_ache at h
  refine j_iload_n C 1 dX6_ache_0 rfl 1 rfl ?_
  refine j_callSI (As := [.int a1]) (rest := []) C (c_X6_isFar h) (va_cwS 1 C.2.2.2.2.2.1 gX6_ache_X6_isFar rfl rfl rfl hdX6_isFar.2 ⟨Nat.le_of_ble_eq_true rfl, Nat.le_of_ble_eq_true rfl⟩) rfl rfl (Nat.le_of_ble_eq_true rfl) dX6_ache_1 (fun r2 σ1 h => ?_)
  refine j_if_eq C 14 dX6_ache_4 (by decide) (fun c3 => ?_) (fun c3 => ?_)
  · replace h := h.1 c3
    refine j_iconst (v := (-1 : Int32)) C dX6_ache_14 (by decide) ?_
    exact j_iret C dX6_ache_15 h
  · replace h := h.2 c3
    refine j_iload_n C 2 dX6_ache_7 rfl 2 rfl ?_
    refine j_callSI (As := [.int a2]) (rest := []) C (c_X6_isPart h) (va_cwS 1 C.2.2.2.2.2.1 gX6_ache_X6_isPart rfl rfl rfl hdX6_isPart.2 ⟨Nat.le_of_ble_eq_true rfl, Nat.le_of_ble_eq_true rfl⟩) rfl rfl (Nat.le_of_ble_eq_true rfl) dX6_ache_8 (fun r5 σ4 h => ?_)
    refine j_if_ne C 16 dX6_ache_11 (by decide) (fun c6 => ?_) (fun c6 => ?_)
    · replace h := h.1 c6
      refine j_aload_n C 0 dX6_ache_16 rfl 0 rfl ?_
      refine j_callVI (As := []) (rest := []) C 64 (c_X6_areTwo h) (cwV 0 C.2.2.2.2.2.1 gX6_ache_X6_areTwo rfl rfl rfl hdX6_areTwo ⟨Nat.le_of_ble_eq_true rfl, Nat.le_of_ble_eq_true rfl⟩) rfl rfl rfl rfl (Nat.le_of_ble_eq_true rfl) dX6_ache_17 (fun r8 σ7 h => ?_)
      refine j_if_eq C 37 dX6_ache_20 (by decide) (fun c9 => ?_) (fun c9 => ?_)
      · replace h := h.1 c9
        refine j_bipush (v := (-2 : Int32)) C dX6_ache_37 (by decide) ?_
        exact j_iret C dX6_ache_39 h
      · replace h := h.2 c9
        refine j_aload_n C 0 dX6_ache_23 rfl 0 rfl ?_
        refine j_bipush (v := (31 : Int32)) C dX6_ache_24 (by decide) ?_
        refine j_iconst (v := (0 : Int32)) C dX6_ache_26 (by decide) ?_
        refine j_bipush (v := (9 : Int32)) C dX6_ache_27 (by decide) ?_
        refine j_iload_n C 1 dX6_ache_29 rfl 1 rfl ?_
        refine j_iload_n C 2 dX6_ache_30 rfl 2 rfl ?_
        refine j_callVI (As := [.int (31 : Int32), .int (0 : Int32), .int (9 : Int32), .int a1, .int a2]) (rest := []) C 64 (c_X6_bestOf h) (cwV 5 C.2.2.2.2.2.1 gX6_ache_X6_bestOf rfl rfl rfl hdX6_bestOf ⟨Nat.le_of_ble_eq_true rfl, Nat.le_of_ble_eq_true rfl⟩) rfl rfl rfl rfl (Nat.le_of_ble_eq_true rfl) dX6_ache_31 (fun r11 σ10 h => ?_)
        refine j_goto C 39 dX6_ache_34 (by decide) ?_
        exact j_iret C dX6_ache_39 h
    · replace h := h.2 c6
      refine j_iconst (v := (-1 : Int32)) C dX6_ache_14 (by decide) ?_
      exact j_iret C dX6_ache_15 h
def wp_X6_builder (a1 : Int32) (a2 : Int32) (σ : Mem) (Q : Int32 → Mem → Prop) : Prop :=
  ∀ (P33 : Int32 → Mem → Prop) (P58 : Int32 → Mem → Prop) (P99 : Int32 → Int32 → Int32 → Int32 → Mem → Prop) (P112 : Int32 → Int32 → Mem → Prop) (P141 : Int32 → Int32 → Mem → Prop),
  (∀ (x3 : Int32) (σ : Mem), (((6 : Int32) ≤ x3 → wp_X6_starts σ (fun σ2 => P58 (0 : Int32) σ2)) ∧ (¬ (6 : Int32) ≤ x3 → vp_in x3 6 ∧ (∀ σ3 : Mem, σ3 = st1 σ 71 (x3).toNatClampNeg (0 : Int32) → ∀ v4 : Int32, v4 = x3 + (1 : Int32) → P33 v4 σ3))) → P33 x3 σ) →
  (∀ (x3 : Int32) (σ : Mem), ((a1 ≤ x3 → P112 (0 : Int32) (1 : Int32) σ) ∧ (¬ a1 ≤ x3 → wp_X6_reignGoes (0 : Int32) σ (fun σ6 => vp_in (σ6.1 64 17) 6 ∧ ((¬ ((σ6.1 66 ((33 : Int32)).toNatClampNeg) - (σ6.1 66 ((33 : Int32)).toNatClampNeg) / (2 : Int32) * (2 : Int32)) = (1 : Int32) → P99 x3 (0 : Int32) ((σ6.1 71 ((σ6.1 64 17)).toNatClampNeg)) ((σ6.1 64 17)) σ6) ∧ (((σ6.1 66 ((33 : Int32)).toNatClampNeg) - (σ6.1 66 ((33 : Int32)).toNatClampNeg) / (2 : Int32) * (2 : Int32)) = (1 : Int32) → P99 x3 ((σ6.1 64 18)) ((σ6.1 71 ((σ6.1 64 17)).toNatClampNeg)) ((σ6.1 64 17)) σ6))))) → P58 x3 σ) →
  (∀ (x3 : Int32) (s0 : Int32) (s1 : Int32) (s2 : Int32) (σ : Mem), (vp_in s2 6 ∧ (∀ σ8 : Mem, σ8 = st1 σ 71 (s2).toNatClampNeg (s1 + s0) → ∀ v9 : Int32, v9 = x3 + (1 : Int32) → P58 v9 σ8)) → P99 x3 s0 s1 s2 σ) →
  (∀ (x3 : Int32) (x4 : Int32) (σ : Mem), (((6 : Int32) ≤ x4 → (¬ a2 = 0 → vp_in x3 6 ∧ (Q (σ.1 71 (x3).toNatClampNeg) σ)) ∧ (a2 = 0 → Q x3 σ)) ∧ (¬ (6 : Int32) ≤ x4 → vp_in x4 6 ∧ (vp_in x3 6 ∧ (((σ.1 71 (x4).toNatClampNeg) ≤ (σ.1 71 (x3).toNatClampNeg) → P141 x4 x3 σ) ∧ (¬ (σ.1 71 (x4).toNatClampNeg) ≤ (σ.1 71 (x3).toNatClampNeg) → P141 x4 x4 σ))))) → P112 x3 x4 σ) →
  (∀ (x4 : Int32) (s0 : Int32) (σ : Mem), (∀ v13 : Int32, v13 = x4 + (1 : Int32) → P112 s0 v13 σ) → P141 x4 s0 σ) →
  wp_X6_in ((a1).toInt64) (1 : Int64) (60 : Int64) σ (fun r15 σ14 => (r15 = 0 → Q (-1 : Int32) σ14) ∧ (¬ r15 = 0 → wp_X6_isPart a2 σ14 (fun r18 σ17 => (¬ r18 = 0 → wp_X6_areTwo σ17 (fun r21 σ20 => (¬ r21 = 0 → P33 (0 : Int32) σ20) ∧ (r21 = 0 → Q (-2 : Int32) σ20))) ∧ (r18 = 0 → Q (-1 : Int32) σ17))))
theorem in_X6_builder_X6 : ∀ w ∈ wsX60, w ∈ wsX6_builder := fun _ h => List.mem_cons_of_mem _ (List.mem_append_right _ h)
def rmX6_builder : Room := { frames := 3, cells := 0, slots := 0, locals := 67 }
theorem hdX6_builder : yX6_builder.cls = RX6 ∧ yX6_builder.cls ≠ "java/lang/invoke/MethodHandle" ∧ yX6_builder.cls ≠ "java/lang/invoke/VarHandle" ∧ (parseMethodDescriptor yX6_builder.desc).map (fun d => d.parameters.length) = some 2 := by decide +kernel
set_option maxHeartbeats 4000000 in
set_option maxRecDepth 100000 in
theorem c_X6_builder {l : Launch} {E : EE} {a1 : Int32} {a2 : Int32}  {σ : Mem} {Q : Int32 → Mem → Prop} (h : wp_X6_builder a1 a2 σ Q) : CtI l yX6_builder wsX6_builder rmX6_builder E [.ref (eA E 64), .int a1, .int a2] σ Q := by
  refine metI (cc := cX6_builder) (nL := 5) (ret := (some .int)) (lv := [(0, .ref (eA E 64)), (1, .int a1), (2, .int a2)]) (by decide) rfl (Nat.le_of_ble_eq_true rfl) rfl ?_
  intro p e s m args below meth c C
  unfold wp_X6_builder at h
  replace h := h (fun (x3 : Int32) (σ : Mem) => J E p l e rmX6_builder s m args below meth c (QI E below args s Q) 5 33 [(0, .ref (eA E 64)), (1, .int a1), (2, .int a2), (3, .int x3)] [] σ) (fun (x3 : Int32) (σ : Mem) => J E p l e rmX6_builder s m args below meth c (QI E below args s Q) 5 58 [(0, .ref (eA E 64)), (1, .int a1), (2, .int a2), (3, .int x3)] [] σ) (fun (x3 : Int32) (s0 : Int32) (s1 : Int32) (s2 : Int32) (σ : Mem) => J E p l e rmX6_builder s m args below meth c (QI E below args s Q) 5 99 [(0, .ref (eA E 64)), (1, .int a1), (2, .int a2), (3, .int x3)] [.int s0, .int s1, .int s2, .ref (eA E 71)] σ) (fun (x3 : Int32) (x4 : Int32) (σ : Mem) => J E p l e rmX6_builder s m args below meth c (QI E below args s Q) 5 112 [(0, .ref (eA E 64)), (2, .int a2), (3, .int x3), (4, .int x4)] [] σ) (fun (x4 : Int32) (s0 : Int32) (σ : Mem) => J E p l e rmX6_builder s m args below meth c (QI E below args s Q) 5 141 [(0, .ref (eA E 64)), (2, .int a2), (4, .int x4)] [.int s0] σ) (by
    intro x3 σ h
    refine j_iload_n C 3 dX6_builder_33 rfl 3 rfl ?_
    refine j_bipush (v := (6 : Int32)) C dX6_builder_34 (by decide) ?_
    refine j_icmp_ge C 52 dX6_builder_36 (by decide) (fun c1 => ?_) (fun c1 => ?_)
    · replace h := h.1 c1
      refine j_aload_n C 0 dX6_builder_52 rfl 0 rfl ?_
      refine j_callVV (As := []) (rest := []) C 64 (c_X6_starts h) (cwV 0 C.2.2.2.2.2.1 gX6_builder_X6_starts rfl rfl rfl hdX6_starts ⟨Nat.le_of_ble_eq_true rfl, Nat.le_of_ble_eq_true rfl⟩) rfl rfl rfl rfl (Nat.le_of_ble_eq_true rfl) dX6_builder_53 (fun σ2 h => ?_)
      refine j_iconst (v := (0 : Int32)) C dX6_builder_56 (by decide) ?_
      refine j_istore_n (lv' := [(3, .int (0 : Int32)), (0, .ref (eA E 64)), (1, .int a1), (2, .int a2)]) C 3 dX6_builder_57 rfl (by decide) rfl ?_
      exact j_sub (lv' := [(0, .ref (eA E 64)), (1, .int a1), (2, .int a2), (3, .int (0 : Int32))]) [1, 2, 3, 0] rfl h
    · replace h := h.2 c1
      refine j_aload_n C 0 dX6_builder_39 rfl 0 rfl ?_
      refine j_getR C 71 64 20 rfl rfl rfl in_X6_builder_X6 (by decide) (by decide +kernel) dX6_builder_40 ?_
      refine j_iload_n C 3 dX6_builder_43 rfl 3 rfl ?_
      refine j_iconst (v := (0 : Int32)) C dX6_builder_44 (by decide) ?_
      refine j_iast C 71 rfl dX6_builder_45 h.1 ?_
      replace h := h.2
      refine j_mem (fun σ3 eσ3 => ?_)
      replace h := h σ3 eσ3
      obtain ⟨v4, ev4⟩ : ∃ y : Int32, y = x3 + (1 : Int32) := ⟨_, rfl⟩
      replace h := h v4 ev4
      refine j_iinc (v := v4) (lv' := [(3, .int v4), (0, .ref (eA E 64)), (1, .int a1), (2, .int a2)]) C 3 dX6_builder_46 3 rfl (by rw [ev4]; rfl) (by decide) rfl ?_
      refine j_goto C 33 dX6_builder_49 (by decide) ?_
      exact j_sub (lv' := [(0, .ref (eA E 64)), (1, .int a1), (2, .int a2), (3, .int v4)]) [1, 2, 3, 0] rfl h) (by
    intro x3 σ h
    refine j_iload_n C 3 dX6_builder_58 rfl 3 rfl ?_
    refine j_iload_n C 1 dX6_builder_59 rfl 1 rfl ?_
    refine j_icmp_ge C 107 dX6_builder_60 (by decide) (fun c5 => ?_) (fun c5 => ?_)
    · replace h := h.1 c5
      refine j_iconst (v := (0 : Int32)) C dX6_builder_107 (by decide) ?_
      refine j_istore_n (lv' := [(3, .int (0 : Int32)), (0, .ref (eA E 64)), (1, .int a1), (2, .int a2)]) C 3 dX6_builder_108 rfl (by decide) rfl ?_
      refine j_iconst (v := (1 : Int32)) C dX6_builder_109 (by decide) ?_
      refine j_istore (lv' := [(4, .int (1 : Int32)), (3, .int (0 : Int32)), (0, .ref (eA E 64)), (1, .int a1), (2, .int a2)]) C 4 dX6_builder_110 (by decide) rfl ?_
      exact j_sub (lv' := [(0, .ref (eA E 64)), (2, .int a2), (3, .int (0 : Int32)), (4, .int (1 : Int32))]) [2, 4, 1, 0] rfl h
    · replace h := h.2 c5
      refine j_aload_n C 0 dX6_builder_63 rfl 0 rfl ?_
      refine j_iconst (v := (0 : Int32)) C dX6_builder_64 (by decide) ?_
      refine j_callVV (As := [.int (0 : Int32)]) (rest := []) C 64 (c_X6_reignGoes h) (cwV 1 C.2.2.2.2.2.1 gX6_builder_X6_reignGoes rfl rfl rfl hdX6_reignGoes ⟨Nat.le_of_ble_eq_true rfl, Nat.le_of_ble_eq_true rfl⟩) rfl rfl rfl rfl (Nat.le_of_ble_eq_true rfl) dX6_builder_65 (fun σ6 h => ?_)
      refine j_aload_n C 0 dX6_builder_68 rfl 0 rfl ?_
      refine j_getR C 71 64 20 rfl rfl rfl in_X6_builder_X6 (by decide) (by decide +kernel) dX6_builder_69 ?_
      refine j_aload_n C 0 dX6_builder_72 rfl 0 rfl ?_
      refine j_getI C 64 17 rfl rfl rfl in_X6_builder_X6 (by decide) (by decide +kernel) dX6_builder_73 ?_
      refine j_dup2 C dX6_builder_76 rfl rfl ?_
      refine j_iald C 71 rfl dX6_builder_77 h.1 ?_
      replace h := h.2
      refine j_aload_n C 0 dX6_builder_78 rfl 0 rfl ?_
      refine j_getR C 66 64 1 rfl rfl rfl in_X6_builder_X6 (by decide) (by decide +kernel) dX6_builder_79 ?_
      refine j_bipush (v := (33 : Int32)) C dX6_builder_82 (by decide) ?_
      refine j_iald C 66 rfl dX6_builder_84 (in_lit rfl) ?_
      refine j_iconst (v := (2 : Int32)) C dX6_builder_85 (by decide) ?_
      refine j_irem C dX6_builder_86 (by decide) ?_
      refine j_iconst (v := (1 : Int32)) C dX6_builder_87 (by decide) ?_
      refine j_icmp_ne C 98 dX6_builder_88 (by decide) (fun c7 => ?_) (fun c7 => ?_)
      · replace h := h.1 c7
        refine j_iconst (v := (0 : Int32)) C dX6_builder_98 (by decide) ?_
        exact j_sub (lv' := [(0, .ref (eA E 64)), (1, .int a1), (2, .int a2), (3, .int x3)]) [0, 1, 2, 3] rfl h
      · replace h := h.2 c7
        refine j_aload_n C 0 dX6_builder_91 rfl 0 rfl ?_
        refine j_getI C 64 18 rfl rfl rfl in_X6_builder_X6 (by decide) (by decide +kernel) dX6_builder_92 ?_
        refine j_goto C 99 dX6_builder_95 (by decide) ?_
        exact j_sub (lv' := [(0, .ref (eA E 64)), (1, .int a1), (2, .int a2), (3, .int x3)]) [0, 1, 2, 3] rfl h) (by
    intro x3 s0 s1 s2 σ h
    refine j_iadd C dX6_builder_99 ?_
    refine j_iast C 71 rfl dX6_builder_100 h.1 ?_
    replace h := h.2
    refine j_mem (fun σ8 eσ8 => ?_)
    replace h := h σ8 eσ8
    obtain ⟨v9, ev9⟩ : ∃ y : Int32, y = x3 + (1 : Int32) := ⟨_, rfl⟩
    replace h := h v9 ev9
    refine j_iinc (v := v9) (lv' := [(3, .int v9), (0, .ref (eA E 64)), (1, .int a1), (2, .int a2)]) C 3 dX6_builder_101 3 rfl (by rw [ev9]; rfl) (by decide) rfl ?_
    refine j_goto C 58 dX6_builder_104 (by decide) ?_
    exact j_sub (lv' := [(0, .ref (eA E 64)), (1, .int a1), (2, .int a2), (3, .int v9)]) [1, 2, 3, 0] rfl h) (by
    intro x3 x4 σ h
    refine j_iload C 4 dX6_builder_112 3 rfl ?_
    refine j_bipush (v := (6 : Int32)) C dX6_builder_114 (by decide) ?_
    refine j_icmp_ge C 148 dX6_builder_116 (by decide) (fun c10 => ?_) (fun c10 => ?_)
    · replace h := h.1 c10
      refine j_iload_n C 2 dX6_builder_148 rfl 1 rfl ?_
      refine j_if_ne C 156 dX6_builder_149 (by decide) (fun c11 => ?_) (fun c11 => ?_)
      · replace h := h.1 c11
        refine j_aload_n C 0 dX6_builder_156 rfl 0 rfl ?_
        refine j_getR C 71 64 20 rfl rfl rfl in_X6_builder_X6 (by decide) (by decide +kernel) dX6_builder_157 ?_
        refine j_iload_n C 3 dX6_builder_160 rfl 2 rfl ?_
        refine j_iald C 71 rfl dX6_builder_161 h.1 ?_
        replace h := h.2
        exact j_iret C dX6_builder_162 h
      · replace h := h.2 c11
        refine j_iload_n C 3 dX6_builder_152 rfl 2 rfl ?_
        refine j_goto C 162 dX6_builder_153 (by decide) ?_
        exact j_iret C dX6_builder_162 h
    · replace h := h.2 c10
      refine j_aload_n C 0 dX6_builder_119 rfl 0 rfl ?_
      refine j_getR C 71 64 20 rfl rfl rfl in_X6_builder_X6 (by decide) (by decide +kernel) dX6_builder_120 ?_
      refine j_iload C 4 dX6_builder_123 3 rfl ?_
      refine j_iald C 71 rfl dX6_builder_125 h.1 ?_
      replace h := h.2
      refine j_aload_n C 0 dX6_builder_126 rfl 0 rfl ?_
      refine j_getR C 71 64 20 rfl rfl rfl in_X6_builder_X6 (by decide) (by decide +kernel) dX6_builder_127 ?_
      refine j_iload_n C 3 dX6_builder_130 rfl 2 rfl ?_
      refine j_iald C 71 rfl dX6_builder_131 h.1 ?_
      replace h := h.2
      refine j_icmp_le C 140 dX6_builder_132 (by decide) (fun c12 => ?_) (fun c12 => ?_)
      · replace h := h.1 c12
        refine j_iload_n C 3 dX6_builder_140 rfl 2 rfl ?_
        exact j_sub (lv' := [(0, .ref (eA E 64)), (2, .int a2), (4, .int x4)]) [0, 1, 3] rfl h
      · replace h := h.2 c12
        refine j_iload C 4 dX6_builder_135 3 rfl ?_
        refine j_goto C 141 dX6_builder_137 (by decide) ?_
        exact j_sub (lv' := [(0, .ref (eA E 64)), (2, .int a2), (4, .int x4)]) [0, 1, 3] rfl h) (by
    intro x4 s0 σ h
    refine j_istore_n (lv' := [(3, .int s0), (0, .ref (eA E 64)), (2, .int a2), (4, .int x4)]) C 3 dX6_builder_141 rfl (by decide) rfl ?_
    obtain ⟨v13, ev13⟩ : ∃ y : Int32, y = x4 + (1 : Int32) := ⟨_, rfl⟩
    replace h := h v13 ev13
    refine j_iinc (v := v13) (lv' := [(4, .int v13), (3, .int s0), (0, .ref (eA E 64)), (2, .int a2)]) C 4 dX6_builder_142 3 rfl (by rw [ev13]; rfl) (by decide) rfl ?_
    refine j_goto C 112 dX6_builder_145 (by decide) ?_
    exact j_sub (lv' := [(0, .ref (eA E 64)), (2, .int a2), (3, .int s0), (4, .int v13)]) [2, 3, 1, 0] rfl h)
  refine j_iload_n C 1 dX6_builder_0 rfl 1 rfl ?_
  refine j_i2l C dX6_builder_1 rfl ?_
  refine j_lconst (v := (1 : Int64)) C dX6_builder_2 (by decide) ?_
  refine j_ldc2 C (60 : Int64) dX6_builder_3 (by decide +kernel) ?_
  refine j_callSI (As := [.long (a1).toInt64, .long (1 : Int64), .long (60 : Int64)]) (rest := []) C (c_X6_in h) (va_cwS 3 C.2.2.2.2.2.1 gX6_builder_X6_in rfl rfl rfl hdX6_in.2 ⟨Nat.le_of_ble_eq_true rfl, Nat.le_of_ble_eq_true rfl⟩) rfl rfl (Nat.le_of_ble_eq_true rfl) dX6_builder_6 (fun r15 σ14 h => ?_)
  refine j_if_eq C 19 dX6_builder_9 (by decide) (fun c16 => ?_) (fun c16 => ?_)
  · replace h := h.1 c16
    refine j_iconst (v := (-1 : Int32)) C dX6_builder_19 (by decide) ?_
    exact j_iret C dX6_builder_20 h
  · replace h := h.2 c16
    refine j_iload_n C 2 dX6_builder_12 rfl 2 rfl ?_
    refine j_callSI (As := [.int a2]) (rest := []) C (c_X6_isPart h) (va_cwS 1 C.2.2.2.2.2.1 gX6_builder_X6_isPart rfl rfl rfl hdX6_isPart.2 ⟨Nat.le_of_ble_eq_true rfl, Nat.le_of_ble_eq_true rfl⟩) rfl rfl (Nat.le_of_ble_eq_true rfl) dX6_builder_13 (fun r18 σ17 h => ?_)
    refine j_if_ne C 21 dX6_builder_16 (by decide) (fun c19 => ?_) (fun c19 => ?_)
    · replace h := h.1 c19
      refine j_aload_n C 0 dX6_builder_21 rfl 0 rfl ?_
      refine j_callVI (As := []) (rest := []) C 64 (c_X6_areTwo h) (cwV 0 C.2.2.2.2.2.1 gX6_builder_X6_areTwo rfl rfl rfl hdX6_areTwo ⟨Nat.le_of_ble_eq_true rfl, Nat.le_of_ble_eq_true rfl⟩) rfl rfl rfl rfl (Nat.le_of_ble_eq_true rfl) dX6_builder_22 (fun r21 σ20 h => ?_)
      refine j_if_ne C 31 dX6_builder_25 (by decide) (fun c22 => ?_) (fun c22 => ?_)
      · replace h := h.1 c22
        refine j_iconst (v := (0 : Int32)) C dX6_builder_31 (by decide) ?_
        refine j_istore_n (lv' := [(3, .int (0 : Int32)), (0, .ref (eA E 64)), (1, .int a1), (2, .int a2)]) C 3 dX6_builder_32 rfl (by decide) rfl ?_
        exact j_sub (lv' := [(0, .ref (eA E 64)), (1, .int a1), (2, .int a2), (3, .int (0 : Int32))]) [1, 2, 3, 0] rfl h
      · replace h := h.2 c22
        refine j_bipush (v := (-2 : Int32)) C dX6_builder_28 (by decide) ?_
        exact j_iret C dX6_builder_30 h
    · replace h := h.2 c19
      refine j_iconst (v := (-1 : Int32)) C dX6_builder_19 (by decide) ?_
      exact j_iret C dX6_builder_20 h
def wp_X6_common (a0 : Int64) (a2 : Int64) (σ : Mem) (Q : Int64 → Mem → Prop) : Prop :=
  ∀ (P6 : Int64 → Int64 → Mem → Prop),
  (∀ (x4 : Int64) (x6 : Int64) (σ : Mem), (((lg_cmp x6 (0 : Int64)) = 0 → Q x4 σ) ∧ (¬ (lg_cmp x6 (0 : Int64)) = 0 → ¬ x6 = 0 ∧ (∀ v2 : Int64, v2 = (x4 - x4 / x6 * x6) → P6 x6 v2 σ))) → P6 x4 x6 σ) →
  P6 a0 a2 σ
def rmX6_common : Room := { frames := 0, cells := 0, slots := 0, locals := 0 }
theorem hdX6_common : yX6_common.cls = RX6 ∧ yX6_common.cls ≠ "java/lang/invoke/MethodHandle" ∧ yX6_common.cls ≠ "java/lang/invoke/VarHandle" ∧ (parseMethodDescriptor yX6_common.desc).map (fun d => d.parameters.length) = some 2 := by decide +kernel
set_option maxHeartbeats 4000000 in
set_option maxRecDepth 100000 in
theorem c_X6_common {l : Launch} {E : EE} {a0 : Int64} {a2 : Int64}  {σ : Mem} {Q : Int64 → Mem → Prop} (h : wp_X6_common a0 a2 σ Q) : CtL l yX6_common wsX6_common rmX6_common E [.long a0, .long a2] σ Q := by
  refine metL (cc := cX6_common) (nL := 10) (ret := (some .long)) (lv := [(0, .long a0), (2, .long a2)]) (by decide) rfl (Nat.le_of_ble_eq_true rfl) rfl ?_
  intro p e s m args below meth c C
  unfold wp_X6_common at h
  replace h := h (fun (x4 : Int64) (x6 : Int64) (σ : Mem) => J E p l e rmX6_common s m args below meth c (QL E below args s Q) 10 6 [(4, .long x4), (6, .long x6)] [] σ) (by
    intro x4 x6 σ h
    refine j_lload C 6 dX6_common_6 1 rfl ?_
    refine j_lconst (v := (0 : Int64)) C dX6_common_8 (by decide) ?_
    refine j_lcmp C dX6_common_9 ?_
    refine j_if_eq C 31 dX6_common_10 (by decide) (fun c1 => ?_) (fun c1 => ?_)
    · replace h := h.1 c1
      refine j_lload C 4 dX6_common_31 0 rfl ?_
      exact j_lret C dX6_common_33 h
    · replace h := h.2 c1
      refine j_lload C 4 dX6_common_13 0 rfl ?_
      refine j_lload C 6 dX6_common_15 1 rfl ?_
      refine j_lrem C dX6_common_17 h.1 ?_
      replace h := h.2
      refine j_topl (fun v2 ev2 => ?_)
      replace h := h v2 ev2
      refine j_lstore (lv' := [(8, .long v2), (4, .long x4), (6, .long x6)]) C 8 dX6_common_18 (by decide) rfl ?_
      refine j_lload C 6 dX6_common_20 2 rfl ?_
      refine j_lstore (lv' := [(4, .long x6), (8, .long v2), (6, .long x6)]) C 4 dX6_common_22 (by decide) rfl ?_
      refine j_lload C 8 dX6_common_24 1 rfl ?_
      refine j_lstore (lv' := [(6, .long v2), (4, .long x6), (8, .long v2)]) C 6 dX6_common_26 (by decide) rfl ?_
      refine j_goto C 6 dX6_common_28 (by decide) ?_
      exact j_sub (lv' := [(4, .long x6), (6, .long v2)]) [1, 0] rfl h)
  refine j_lload_n C 0 dX6_common_0 rfl 0 rfl ?_
  refine j_lstore (lv' := [(4, .long a0), (0, .long a0), (2, .long a2)]) C 4 dX6_common_1 (by decide) rfl ?_
  refine j_lload_n C 2 dX6_common_3 rfl 2 rfl ?_
  refine j_lstore (lv' := [(6, .long a2), (4, .long a0), (0, .long a0), (2, .long a2)]) C 6 dX6_common_4 (by decide) rfl ?_
  exact j_sub (lv' := [(4, .long a0), (6, .long a2)]) [1, 0] rfl h
def wp_X6_told (a0 : Int64) (a2 : Int64) (a4 : Int32) (σ : Mem) (Q : Int64 → Mem → Prop) : Prop :=
  wp_X6_common a2 a0 σ (fun r2 σ1 => (¬ a4 = 0 → ¬ r2 = 0 ∧ (Q (a2 / r2) σ1)) ∧ (a4 = 0 → ¬ r2 = 0 ∧ (Q (a0 / r2) σ1)))
def rmX6_told : Room := { frames := 1, cells := 0, slots := 0, locals := 29 }
theorem hdX6_told : yX6_told.cls = RX6 ∧ yX6_told.cls ≠ "java/lang/invoke/MethodHandle" ∧ yX6_told.cls ≠ "java/lang/invoke/VarHandle" ∧ (parseMethodDescriptor yX6_told.desc).map (fun d => d.parameters.length) = some 3 := by decide +kernel
set_option maxHeartbeats 4000000 in
set_option maxRecDepth 100000 in
theorem c_X6_told {l : Launch} {E : EE} {a0 : Int64} {a2 : Int64} {a4 : Int32}  {σ : Mem} {Q : Int64 → Mem → Prop} (h : wp_X6_told a0 a2 a4 σ Q) : CtL l yX6_told wsX6_told rmX6_told E [.long a0, .long a2, .int a4] σ Q := by
  refine metL (cc := cX6_told) (nL := 7) (ret := (some .long)) (lv := [(0, .long a0), (2, .long a2), (4, .int a4)]) (by decide) rfl (Nat.le_of_ble_eq_true rfl) rfl ?_
  intro p e s m args below meth c C
  unfold wp_X6_told at h
  refine j_lload_n C 2 dX6_told_0 rfl 1 rfl ?_
  refine j_lload_n C 0 dX6_told_1 rfl 0 rfl ?_
  refine j_callSL (As := [.long a2, .long a0]) (rest := []) C (c_X6_common h) (va_cwS 2 C.2.2.2.2.2.1 gX6_told_X6_common rfl rfl rfl hdX6_common.2 ⟨Nat.le_of_ble_eq_true rfl, Nat.le_of_ble_eq_true rfl⟩) rfl rfl (Nat.le_of_ble_eq_true rfl) dX6_told_2 (fun r2 σ1 h => ?_)
  refine j_lstore (lv' := [(5, .long r2), (0, .long a0), (2, .long a2), (4, .int a4)]) C 5 dX6_told_5 (by decide) rfl ?_
  refine j_iload C 4 dX6_told_7 3 rfl ?_
  refine j_if_ne C 19 dX6_told_9 (by decide) (fun c3 => ?_) (fun c3 => ?_)
  · replace h := h.1 c3
    refine j_lload_n C 2 dX6_told_19 rfl 2 rfl ?_
    refine j_lload C 5 dX6_told_20 0 rfl ?_
    refine j_ldiv C dX6_told_22 h.1 ?_
    replace h := h.2
    exact j_lret C dX6_told_23 h
  · replace h := h.2 c3
    refine j_lload_n C 0 dX6_told_12 rfl 1 rfl ?_
    refine j_lload C 5 dX6_told_13 0 rfl ?_
    refine j_ldiv C dX6_told_15 h.1 ?_
    replace h := h.2
    refine j_goto C 23 dX6_told_16 (by decide) ?_
    exact j_lret C dX6_told_23 h
def wp_X6_findOdds (a1 : Int32) (a2 : Int32) (a3 : Int32) (σ : Mem) (Q : Mem → Prop) : Prop :=
  ∀ (P18 : Int32 → Mem → Prop) (P45 : Int32 → Mem → Prop) (P69 : Int32 → Int64 → Int32 → Mem → Prop) (P91 : Int32 → Int64 → Int32 → Int32 → Mem → Prop) (P110 : Int32 → Int32 → Int32 → Int64 → Int64 → Mem → Prop) (P144 : Int32 → Int64 → Int64 → Int64 → Mem → Prop),
  (∀ (x4 : Int32) (σ : Mem), ((a3 ≤ x4 → P45 (0 : Int32) σ) ∧ (¬ a3 ≤ x4 → ∀ σ2 : Mem, σ2 = st2 σ 64 23 ((σ.2 64 23) * (10 : Int64)) → ∀ v3 : Int32, v3 = x4 + (1 : Int32) → P18 v3 σ2)) → P18 x4 σ) →
  (∀ (x4 : Int32) (σ : Mem), ((((1 : Int32) <<< (a3 &&& 31)) ≤ x4 → Q σ) ∧ (¬ ((1 : Int32) <<< (a3 &&& 31)) ≤ x4 → wp_X6_starts σ (fun σ5 => ∀ σ6 : Mem, σ6 = st1 σ5 64 17 (-4 : Int32) → P69 x4 (1 : Int64) (0 : Int32) σ6))) → P45 x4 σ) →
  (∀ (x4 : Int32) (x5 : Int64) (x7 : Int32) (σ : Mem), ((a3 ≤ x7 → (¬ (σ.1 64 17) = a2 → P144 x4 x5 (0 : Int64) ((σ.2 64 21)) σ) ∧ ((σ.1 64 17) = a2 → P144 x4 x5 x5 ((σ.2 64 21)) σ)) ∧ (¬ a3 ≤ x7 → (¬ ((x4 >>> (x7 &&& 31)) &&& (1 : Int32)) = (1 : Int32) → P91 x4 x5 x7 (0 : Int32) σ) ∧ (((x4 >>> (x7 &&& 31)) &&& (1 : Int32)) = (1 : Int32) → P91 x4 x5 x7 (1 : Int32) σ))) → P69 x4 x5 x7 σ) →
  (∀ (x4 : Int32) (x5 : Int64) (x7 : Int32) (s0 : Int32) (σ : Mem), ((s0 = 0 → P110 x4 x7 s0 ((((10 : Int32) - a1)).toInt64) x5 σ) ∧ (¬ s0 = 0 → P110 x4 x7 s0 ((a1).toInt64) x5 σ)) → P91 x4 x5 x7 s0 σ) →
  (∀ (x4 : Int32) (x7 : Int32) (x8 : Int32) (s0 : Int64) (s1 : Int64) (σ : Mem), (∀ v11 : Int64, v11 = (s1 * s0) → wp_X6_reignGoes x8 σ (fun σ12 => ∀ v13 : Int32, v13 = x7 + (1 : Int32) → P69 x4 v11 v13 σ12)) → P110 x4 x7 x8 s0 s1 σ) →
  (∀ (x4 : Int32) (x5 : Int64) (s0 : Int64) (s1 : Int64) (σ : Mem), (∀ σ14 : Mem, σ14 = st2 σ 64 21 (s1 + s0) → ∀ σ15 : Mem, σ15 = st2 σ14 64 22 ((σ14.2 64 22) + (x5 * ((σ14.1 66 ((32 : Int32)).toNatClampNeg)).toInt64)) → ∀ v16 : Int32, v16 = x4 + (1 : Int32) → P45 v16 σ15) → P144 x4 x5 s0 s1 σ) →
  ∀ σ17 : Mem, σ17 = st2 σ 64 21 (0 : Int64) → ∀ σ18 : Mem, σ18 = st2 σ17 64 22 (0 : Int64) → ∀ σ19 : Mem, σ19 = st2 σ18 64 23 (1 : Int64) → P18 (0 : Int32) σ19
theorem in_X6_findOdds_X6 : ∀ w ∈ wsX60, w ∈ wsX6_findOdds := fun _ h => List.mem_cons_of_mem _ (List.mem_append_right _ h)
def rmX6_findOdds : Room := { frames := 3, cells := 0, slots := 0, locals := 67 }
theorem hdX6_findOdds : yX6_findOdds.cls = RX6 ∧ yX6_findOdds.cls ≠ "java/lang/invoke/MethodHandle" ∧ yX6_findOdds.cls ≠ "java/lang/invoke/VarHandle" ∧ (parseMethodDescriptor yX6_findOdds.desc).map (fun d => d.parameters.length) = some 3 := by decide +kernel
set_option maxHeartbeats 4000000 in
set_option maxRecDepth 100000 in
theorem c_X6_findOdds {l : Launch} {E : EE} {a1 : Int32} {a2 : Int32} {a3 : Int32}  {σ : Mem} {Q : Mem → Prop} (h : wp_X6_findOdds a1 a2 a3 σ Q) : CtV l yX6_findOdds wsX6_findOdds rmX6_findOdds E [.ref (eA E 64), .int a1, .int a2, .int a3] σ Q := by
  refine metV (cc := cX6_findOdds) (nL := 9) (ret := none) (lv := [(0, .ref (eA E 64)), (1, .int a1), (2, .int a2), (3, .int a3)]) (by decide) rfl (Nat.le_of_ble_eq_true rfl) rfl ?_
  intro p e s m args below meth c C
  unfold wp_X6_findOdds at h
  replace h := h (fun (x4 : Int32) (σ : Mem) => J E p l e rmX6_findOdds s m args below meth c (QV E below args s Q) 9 18 [(0, .ref (eA E 64)), (1, .int a1), (2, .int a2), (3, .int a3), (4, .int x4)] [] σ) (fun (x4 : Int32) (σ : Mem) => J E p l e rmX6_findOdds s m args below meth c (QV E below args s Q) 9 45 [(0, .ref (eA E 64)), (1, .int a1), (2, .int a2), (3, .int a3), (4, .int x4)] [] σ) (fun (x4 : Int32) (x5 : Int64) (x7 : Int32) (σ : Mem) => J E p l e rmX6_findOdds s m args below meth c (QV E below args s Q) 9 69 [(0, .ref (eA E 64)), (1, .int a1), (2, .int a2), (3, .int a3), (4, .int x4), (5, .long x5), (7, .int x7)] [] σ) (fun (x4 : Int32) (x5 : Int64) (x7 : Int32) (s0 : Int32) (σ : Mem) => J E p l e rmX6_findOdds s m args below meth c (QV E below args s Q) 9 91 [(0, .ref (eA E 64)), (1, .int a1), (2, .int a2), (3, .int a3), (4, .int x4), (5, .long x5), (7, .int x7)] [.int s0] σ) (fun (x4 : Int32) (x7 : Int32) (x8 : Int32) (s0 : Int64) (s1 : Int64) (σ : Mem) => J E p l e rmX6_findOdds s m args below meth c (QV E below args s Q) 9 110 [(0, .ref (eA E 64)), (1, .int a1), (2, .int a2), (3, .int a3), (4, .int x4), (7, .int x7), (8, .int x8)] [.long s0, .long s1] σ) (fun (x4 : Int32) (x5 : Int64) (s0 : Int64) (s1 : Int64) (σ : Mem) => J E p l e rmX6_findOdds s m args below meth c (QV E below args s Q) 9 144 [(0, .ref (eA E 64)), (1, .int a1), (2, .int a2), (3, .int a3), (4, .int x4), (5, .long x5)] [.long s0, .long s1, .ref (eA E 64)] σ) (by
    intro x4 σ h
    refine j_iload C 4 dX6_findOdds_18 4 rfl ?_
    refine j_iload_n C 3 dX6_findOdds_20 rfl 3 rfl ?_
    refine j_icmp_ge C 42 dX6_findOdds_21 (by decide) (fun c1 => ?_) (fun c1 => ?_)
    · replace h := h.1 c1
      refine j_iconst (v := (0 : Int32)) C dX6_findOdds_42 (by decide) ?_
      refine j_istore (lv' := [(4, .int (0 : Int32)), (0, .ref (eA E 64)), (1, .int a1), (2, .int a2), (3, .int a3)]) C 4 dX6_findOdds_43 (by decide) rfl ?_
      exact j_sub (lv' := [(0, .ref (eA E 64)), (1, .int a1), (2, .int a2), (3, .int a3), (4, .int (0 : Int32))]) [1, 2, 3, 4, 0] rfl h
    · replace h := h.2 c1
      refine j_aload_n C 0 dX6_findOdds_24 rfl 0 rfl ?_
      refine j_dup C dX6_findOdds_25 rfl ?_
      refine j_getL C 64 23 rfl rfl rfl in_X6_findOdds_X6 (by decide) (by decide +kernel) dX6_findOdds_26 ?_
      refine j_ldc2 C (10 : Int64) dX6_findOdds_29 (by decide +kernel) ?_
      refine j_lmul C dX6_findOdds_32 ?_
      refine j_putL C 64 23 rfl rfl rfl in_X6_findOdds_X6 tyX6 tyX6_ok nmX6 (by decide) (by decide +kernel) rfl rfl dX6_findOdds_33 ?_
      refine j_mem (fun σ2 eσ2 => ?_)
      replace h := h σ2 eσ2
      obtain ⟨v3, ev3⟩ : ∃ y : Int32, y = x4 + (1 : Int32) := ⟨_, rfl⟩
      replace h := h v3 ev3
      refine j_iinc (v := v3) (lv' := [(4, .int v3), (0, .ref (eA E 64)), (1, .int a1), (2, .int a2), (3, .int a3)]) C 4 dX6_findOdds_36 4 rfl (by rw [ev3]; rfl) (by decide) rfl ?_
      refine j_goto C 18 dX6_findOdds_39 (by decide) ?_
      exact j_sub (lv' := [(0, .ref (eA E 64)), (1, .int a1), (2, .int a2), (3, .int a3), (4, .int v3)]) [1, 2, 3, 4, 0] rfl h) (by
    intro x4 σ h
    refine j_iload C 4 dX6_findOdds_45 4 rfl ?_
    refine j_iconst (v := (1 : Int32)) C dX6_findOdds_47 (by decide) ?_
    refine j_iload_n C 3 dX6_findOdds_48 rfl 3 rfl ?_
    refine j_ishl C dX6_findOdds_49 ?_
    refine j_icmp_ge C 174 dX6_findOdds_50 (by decide) (fun c4 => ?_) (fun c4 => ?_)
    · replace h := h.1 c4
      exact j_vret C dX6_findOdds_174 h
    · replace h := h.2 c4
      refine j_lconst (v := (1 : Int64)) C dX6_findOdds_53 (by decide) ?_
      refine j_lstore (lv' := [(5, .long (1 : Int64)), (0, .ref (eA E 64)), (1, .int a1), (2, .int a2), (3, .int a3), (4, .int x4)]) C 5 dX6_findOdds_54 (by decide) rfl ?_
      refine j_aload_n C 0 dX6_findOdds_56 rfl 1 rfl ?_
      refine j_callVV (As := []) (rest := []) C 64 (c_X6_starts h) (cwV 0 C.2.2.2.2.2.1 gX6_findOdds_X6_starts rfl rfl rfl hdX6_starts ⟨Nat.le_of_ble_eq_true rfl, Nat.le_of_ble_eq_true rfl⟩) rfl rfl rfl rfl (Nat.le_of_ble_eq_true rfl) dX6_findOdds_57 (fun σ5 h => ?_)
      refine j_aload_n C 0 dX6_findOdds_60 rfl 1 rfl ?_
      refine j_bipush (v := (-4 : Int32)) C dX6_findOdds_61 (by decide) ?_
      refine j_put C 64 17 rfl rfl rfl in_X6_findOdds_X6 tyX6 tyX6_ok nmX6 (by decide) (by decide +kernel) rfl rfl rfl rfl dX6_findOdds_63 ?_
      refine j_mem (fun σ6 eσ6 => ?_)
      replace h := h σ6 eσ6
      refine j_iconst (v := (0 : Int32)) C dX6_findOdds_66 (by decide) ?_
      refine j_istore (lv' := [(7, .int (0 : Int32)), (5, .long (1 : Int64)), (0, .ref (eA E 64)), (1, .int a1), (2, .int a2), (3, .int a3), (4, .int x4)]) C 7 dX6_findOdds_67 (by decide) rfl ?_
      exact j_sub (lv' := [(0, .ref (eA E 64)), (1, .int a1), (2, .int a2), (3, .int a3), (4, .int x4), (5, .long (1 : Int64)), (7, .int (0 : Int32))]) [2, 3, 4, 5, 6, 1, 0] rfl h) (by
    intro x4 x5 x7 σ h
    refine j_iload C 7 dX6_findOdds_69 6 rfl ?_
    refine j_iload_n C 3 dX6_findOdds_71 rfl 3 rfl ?_
    refine j_icmp_ge C 125 dX6_findOdds_72 (by decide) (fun c7 => ?_) (fun c7 => ?_)
    · replace h := h.1 c7
      refine j_aload_n C 0 dX6_findOdds_125 rfl 0 rfl ?_
      refine j_dup C dX6_findOdds_126 rfl ?_
      refine j_getL C 64 21 rfl rfl rfl in_X6_findOdds_X6 (by decide) (by decide +kernel) dX6_findOdds_127 ?_
      refine j_aload_n C 0 dX6_findOdds_130 rfl 0 rfl ?_
      refine j_getI C 64 17 rfl rfl rfl in_X6_findOdds_X6 (by decide) (by decide +kernel) dX6_findOdds_131 ?_
      refine j_iload_n C 2 dX6_findOdds_134 rfl 2 rfl ?_
      refine j_icmp_ne C 143 dX6_findOdds_135 (by decide) (fun c8 => ?_) (fun c8 => ?_)
      · replace h := h.1 c8
        refine j_lconst (v := (0 : Int64)) C dX6_findOdds_143 (by decide) ?_
        exact j_sub (lv' := [(0, .ref (eA E 64)), (1, .int a1), (2, .int a2), (3, .int a3), (4, .int x4), (5, .long x5)]) [0, 1, 2, 3, 4, 5] rfl h
      · replace h := h.2 c8
        refine j_lload C 5 dX6_findOdds_138 5 rfl ?_
        refine j_goto C 144 dX6_findOdds_140 (by decide) ?_
        exact j_sub (lv' := [(0, .ref (eA E 64)), (1, .int a1), (2, .int a2), (3, .int a3), (4, .int x4), (5, .long x5)]) [0, 1, 2, 3, 4, 5] rfl h
    · replace h := h.2 c7
      refine j_iload C 4 dX6_findOdds_75 4 rfl ?_
      refine j_iload C 7 dX6_findOdds_77 6 rfl ?_
      refine j_ishr C dX6_findOdds_79 ?_
      refine j_iconst (v := (1 : Int32)) C dX6_findOdds_80 (by decide) ?_
      refine j_iand C dX6_findOdds_81 ?_
      refine j_iconst (v := (1 : Int32)) C dX6_findOdds_82 (by decide) ?_
      refine j_icmp_ne C 90 dX6_findOdds_83 (by decide) (fun c9 => ?_) (fun c9 => ?_)
      · replace h := h.1 c9
        refine j_iconst (v := (0 : Int32)) C dX6_findOdds_90 (by decide) ?_
        exact j_sub (lv' := [(0, .ref (eA E 64)), (1, .int a1), (2, .int a2), (3, .int a3), (4, .int x4), (5, .long x5), (7, .int x7)]) [0, 1, 2, 3, 4, 5, 6] rfl h
      · replace h := h.2 c9
        refine j_iconst (v := (1 : Int32)) C dX6_findOdds_86 (by decide) ?_
        refine j_goto C 91 dX6_findOdds_87 (by decide) ?_
        exact j_sub (lv' := [(0, .ref (eA E 64)), (1, .int a1), (2, .int a2), (3, .int a3), (4, .int x4), (5, .long x5), (7, .int x7)]) [0, 1, 2, 3, 4, 5, 6] rfl h) (by
    intro x4 x5 x7 s0 σ h
    refine j_istore (lv' := [(8, .int s0), (0, .ref (eA E 64)), (1, .int a1), (2, .int a2), (3, .int a3), (4, .int x4), (5, .long x5), (7, .int x7)]) C 8 dX6_findOdds_91 (by decide) rfl ?_
    refine j_lload C 5 dX6_findOdds_93 6 rfl ?_
    refine j_iload C 8 dX6_findOdds_95 0 rfl ?_
    refine j_if_eq C 105 dX6_findOdds_97 (by decide) (fun c10 => ?_) (fun c10 => ?_)
    · replace h := h.1 c10
      refine j_bipush (v := (10 : Int32)) C dX6_findOdds_105 (by decide) ?_
      refine j_iload_n C 1 dX6_findOdds_107 rfl 2 rfl ?_
      refine j_isub C dX6_findOdds_108 ?_
      refine j_i2l C dX6_findOdds_109 rfl ?_
      exact j_sub (lv' := [(0, .ref (eA E 64)), (1, .int a1), (2, .int a2), (3, .int a3), (4, .int x4), (7, .int x7), (8, .int s0)]) [1, 2, 3, 4, 5, 7, 0] rfl h
    · replace h := h.2 c10
      refine j_iload_n C 1 dX6_findOdds_100 rfl 2 rfl ?_
      refine j_i2l C dX6_findOdds_101 rfl ?_
      refine j_goto C 110 dX6_findOdds_102 (by decide) ?_
      exact j_sub (lv' := [(0, .ref (eA E 64)), (1, .int a1), (2, .int a2), (3, .int a3), (4, .int x4), (7, .int x7), (8, .int s0)]) [1, 2, 3, 4, 5, 7, 0] rfl h) (by
    intro x4 x7 x8 s0 s1 σ h
    refine j_lmul C dX6_findOdds_110 ?_
    refine j_topl (fun v11 ev11 => ?_)
    replace h := h v11 ev11
    refine j_lstore (lv' := [(5, .long v11), (0, .ref (eA E 64)), (1, .int a1), (2, .int a2), (3, .int a3), (4, .int x4), (7, .int x7), (8, .int x8)]) C 5 dX6_findOdds_111 (by decide) rfl ?_
    refine j_aload_n C 0 dX6_findOdds_113 rfl 1 rfl ?_
    refine j_iload C 8 dX6_findOdds_114 7 rfl ?_
    refine j_callVV (As := [.int x8]) (rest := []) C 64 (c_X6_reignGoes h) (cwV 1 C.2.2.2.2.2.1 gX6_findOdds_X6_reignGoes rfl rfl rfl hdX6_reignGoes ⟨Nat.le_of_ble_eq_true rfl, Nat.le_of_ble_eq_true rfl⟩) rfl rfl rfl rfl (Nat.le_of_ble_eq_true rfl) dX6_findOdds_116 (fun σ12 h => ?_)
    obtain ⟨v13, ev13⟩ : ∃ y : Int32, y = x7 + (1 : Int32) := ⟨_, rfl⟩
    replace h := h v13 ev13
    refine j_iinc (v := v13) (lv' := [(7, .int v13), (5, .long v11), (0, .ref (eA E 64)), (1, .int a1), (2, .int a2), (3, .int a3), (4, .int x4), (8, .int x8)]) C 7 dX6_findOdds_119 6 rfl (by rw [ev13]; rfl) (by decide) rfl ?_
    refine j_goto C 69 dX6_findOdds_122 (by decide) ?_
    exact j_sub (lv' := [(0, .ref (eA E 64)), (1, .int a1), (2, .int a2), (3, .int a3), (4, .int x4), (5, .long v11), (7, .int v13)]) [2, 3, 4, 5, 6, 1, 0] rfl h) (by
    intro x4 x5 s0 s1 σ h
    refine j_ladd C dX6_findOdds_144 ?_
    refine j_putL C 64 21 rfl rfl rfl in_X6_findOdds_X6 tyX6 tyX6_ok nmX6 (by decide) (by decide +kernel) rfl rfl dX6_findOdds_145 ?_
    refine j_mem (fun σ14 eσ14 => ?_)
    replace h := h σ14 eσ14
    refine j_aload_n C 0 dX6_findOdds_148 rfl 0 rfl ?_
    refine j_dup C dX6_findOdds_149 rfl ?_
    refine j_getL C 64 22 rfl rfl rfl in_X6_findOdds_X6 (by decide) (by decide +kernel) dX6_findOdds_150 ?_
    refine j_lload C 5 dX6_findOdds_153 5 rfl ?_
    refine j_aload_n C 0 dX6_findOdds_155 rfl 0 rfl ?_
    refine j_getR C 66 64 1 rfl rfl rfl in_X6_findOdds_X6 (by decide) (by decide +kernel) dX6_findOdds_156 ?_
    refine j_bipush (v := (32 : Int32)) C dX6_findOdds_159 (by decide) ?_
    refine j_iald C 66 rfl dX6_findOdds_161 (in_lit rfl) ?_
    refine j_i2l C dX6_findOdds_162 rfl ?_
    refine j_lmul C dX6_findOdds_163 ?_
    refine j_ladd C dX6_findOdds_164 ?_
    refine j_putL C 64 22 rfl rfl rfl in_X6_findOdds_X6 tyX6 tyX6_ok nmX6 (by decide) (by decide +kernel) rfl rfl dX6_findOdds_165 ?_
    refine j_mem (fun σ15 eσ15 => ?_)
    replace h := h σ15 eσ15
    obtain ⟨v16, ev16⟩ : ∃ y : Int32, y = x4 + (1 : Int32) := ⟨_, rfl⟩
    replace h := h v16 ev16
    refine j_iinc (v := v16) (lv' := [(4, .int v16), (0, .ref (eA E 64)), (1, .int a1), (2, .int a2), (3, .int a3), (5, .long x5)]) C 4 dX6_findOdds_168 4 rfl (by rw [ev16]; rfl) (by decide) rfl ?_
    refine j_goto C 45 dX6_findOdds_171 (by decide) ?_
    exact j_sub (lv' := [(0, .ref (eA E 64)), (1, .int a1), (2, .int a2), (3, .int a3), (4, .int v16)]) [1, 2, 3, 4, 0] rfl h)
  refine j_aload_n C 0 dX6_findOdds_0 rfl 0 rfl ?_
  refine j_lconst (v := (0 : Int64)) C dX6_findOdds_1 (by decide) ?_
  refine j_putL C 64 21 rfl rfl rfl in_X6_findOdds_X6 tyX6 tyX6_ok nmX6 (by decide) (by decide +kernel) rfl rfl dX6_findOdds_2 ?_
  refine j_mem (fun σ17 eσ17 => ?_)
  replace h := h σ17 eσ17
  refine j_aload_n C 0 dX6_findOdds_5 rfl 0 rfl ?_
  refine j_lconst (v := (0 : Int64)) C dX6_findOdds_6 (by decide) ?_
  refine j_putL C 64 22 rfl rfl rfl in_X6_findOdds_X6 tyX6 tyX6_ok nmX6 (by decide) (by decide +kernel) rfl rfl dX6_findOdds_7 ?_
  refine j_mem (fun σ18 eσ18 => ?_)
  replace h := h σ18 eσ18
  refine j_aload_n C 0 dX6_findOdds_10 rfl 0 rfl ?_
  refine j_lconst (v := (1 : Int64)) C dX6_findOdds_11 (by decide) ?_
  refine j_putL C 64 23 rfl rfl rfl in_X6_findOdds_X6 tyX6 tyX6_ok nmX6 (by decide) (by decide +kernel) rfl rfl dX6_findOdds_12 ?_
  refine j_mem (fun σ19 eσ19 => ?_)
  replace h := h σ19 eσ19
  refine j_iconst (v := (0 : Int32)) C dX6_findOdds_15 (by decide) ?_
  refine j_istore (lv' := [(4, .int (0 : Int32)), (0, .ref (eA E 64)), (1, .int a1), (2, .int a2), (3, .int a3)]) C 4 dX6_findOdds_16 (by decide) rfl ?_
  exact j_sub (lv' := [(0, .ref (eA E 64)), (1, .int a1), (2, .int a2), (3, .int a3), (4, .int (0 : Int32))]) [1, 2, 3, 4, 0] rfl h
def wp_X6_luck (a1 : Int32) (a2 : Int32) (a3 : Int32) (a4 : Int32) (σ : Mem) (Q : Int64 → Mem → Prop) : Prop :=
  wp_X6_in ((a1).toInt64) (0 : Int64) (10 : Int64) σ (fun r2 σ1 => (r2 = 0 → Q (-1 : Int64) σ1) ∧ (¬ r2 = 0 → wp_X6_isHeir a2 σ1 (fun r5 σ4 => (r5 = 0 → Q (-1 : Int64) σ4) ∧ (¬ r5 = 0 → wp_X6_in ((a3).toInt64) (0 : Int64) (8 : Int64) σ4 (fun r8 σ7 => (r8 = 0 → Q (-1 : Int64) σ7) ∧ (¬ r8 = 0 → wp_X6_isPart a4 σ7 (fun r11 σ10 => (¬ r11 = 0 → wp_X6_areTwo σ10 (fun r14 σ13 => (¬ r14 = 0 → wp_X6_findOdds a1 a2 a3 σ13 (fun σ16 => wp_X6_told ((σ16.2 64 21)) ((σ16.2 64 23)) a4 σ16 (fun r18 σ17 => Q r18 σ17))) ∧ (r14 = 0 → Q (-2 : Int64) σ13))) ∧ (r11 = 0 → Q (-1 : Int64) σ10))))))))
theorem in_X6_luck_X6 : ∀ w ∈ wsX60, w ∈ wsX6_luck := fun _ h => List.mem_cons_of_mem _ (List.mem_append_right _ h)
def rmX6_luck : Room := { frames := 4, cells := 0, slots := 0, locals := 95 }
theorem hdX6_luck : yX6_luck.cls = RX6 ∧ yX6_luck.cls ≠ "java/lang/invoke/MethodHandle" ∧ yX6_luck.cls ≠ "java/lang/invoke/VarHandle" ∧ (parseMethodDescriptor yX6_luck.desc).map (fun d => d.parameters.length) = some 4 := by decide +kernel
set_option maxHeartbeats 4000000 in
set_option maxRecDepth 100000 in
theorem c_X6_luck {l : Launch} {E : EE} {a1 : Int32} {a2 : Int32} {a3 : Int32} {a4 : Int32}  {σ : Mem} {Q : Int64 → Mem → Prop} (h : wp_X6_luck a1 a2 a3 a4 σ Q) : CtL l yX6_luck wsX6_luck rmX6_luck E [.ref (eA E 64), .int a1, .int a2, .int a3, .int a4] σ Q := by
  refine metL (cc := cX6_luck) (nL := 5) (ret := (some .long)) (lv := [(0, .ref (eA E 64)), (1, .int a1), (2, .int a2), (3, .int a3), (4, .int a4)]) (by decide) rfl (Nat.le_of_ble_eq_true rfl) rfl ?_
  intro p e s m args below meth c C
  unfold wp_X6_luck at h
  refine j_iload_n C 1 dX6_luck_0 rfl 1 rfl ?_
  refine j_i2l C dX6_luck_1 rfl ?_
  refine j_lconst (v := (0 : Int64)) C dX6_luck_2 (by decide) ?_
  refine j_ldc2 C (10 : Int64) dX6_luck_3 (by decide +kernel) ?_
  refine j_callSI (As := [.long (a1).toInt64, .long (0 : Int64), .long (10 : Int64)]) (rest := []) C (c_X6_in h) (va_cwS 3 C.2.2.2.2.2.1 gX6_luck_X6_in rfl rfl rfl hdX6_in.2 ⟨Nat.le_of_ble_eq_true rfl, Nat.le_of_ble_eq_true rfl⟩) rfl rfl (Nat.le_of_ble_eq_true rfl) dX6_luck_6 (fun r2 σ1 h => ?_)
  refine j_if_eq C 40 dX6_luck_9 (by decide) (fun c3 => ?_) (fun c3 => ?_)
  · replace h := h.1 c3
    refine j_ldc2 C (-1 : Int64) dX6_luck_40 (by decide +kernel) ?_
    exact j_lret C dX6_luck_43 h
  · replace h := h.2 c3
    refine j_aload_n C 0 dX6_luck_12 rfl 0 rfl ?_
    refine j_iload_n C 2 dX6_luck_13 rfl 2 rfl ?_
    refine j_callVI (As := [.int a2]) (rest := []) C 64 (c_X6_isHeir h) (cwV 1 C.2.2.2.2.2.1 gX6_luck_X6_isHeir rfl rfl rfl hdX6_isHeir ⟨Nat.le_of_ble_eq_true rfl, Nat.le_of_ble_eq_true rfl⟩) rfl rfl rfl rfl (Nat.le_of_ble_eq_true rfl) dX6_luck_14 (fun r5 σ4 h => ?_)
    refine j_if_eq C 40 dX6_luck_17 (by decide) (fun c6 => ?_) (fun c6 => ?_)
    · replace h := h.1 c6
      refine j_ldc2 C (-1 : Int64) dX6_luck_40 (by decide +kernel) ?_
      exact j_lret C dX6_luck_43 h
    · replace h := h.2 c6
      refine j_iload_n C 3 dX6_luck_20 rfl 3 rfl ?_
      refine j_i2l C dX6_luck_21 rfl ?_
      refine j_lconst (v := (0 : Int64)) C dX6_luck_22 (by decide) ?_
      refine j_ldc2 C (8 : Int64) dX6_luck_23 (by decide +kernel) ?_
      refine j_callSI (As := [.long (a3).toInt64, .long (0 : Int64), .long (8 : Int64)]) (rest := []) C (c_X6_in h) (va_cwS 3 C.2.2.2.2.2.1 gX6_luck_X6_in rfl rfl rfl hdX6_in.2 ⟨Nat.le_of_ble_eq_true rfl, Nat.le_of_ble_eq_true rfl⟩) rfl rfl (Nat.le_of_ble_eq_true rfl) dX6_luck_26 (fun r8 σ7 h => ?_)
      refine j_if_eq C 40 dX6_luck_29 (by decide) (fun c9 => ?_) (fun c9 => ?_)
      · replace h := h.1 c9
        refine j_ldc2 C (-1 : Int64) dX6_luck_40 (by decide +kernel) ?_
        exact j_lret C dX6_luck_43 h
      · replace h := h.2 c9
        refine j_iload C 4 dX6_luck_32 4 rfl ?_
        refine j_callSI (As := [.int a4]) (rest := []) C (c_X6_isPart h) (va_cwS 1 C.2.2.2.2.2.1 gX6_luck_X6_isPart rfl rfl rfl hdX6_isPart.2 ⟨Nat.le_of_ble_eq_true rfl, Nat.le_of_ble_eq_true rfl⟩) rfl rfl (Nat.le_of_ble_eq_true rfl) dX6_luck_34 (fun r11 σ10 h => ?_)
        refine j_if_ne C 44 dX6_luck_37 (by decide) (fun c12 => ?_) (fun c12 => ?_)
        · replace h := h.1 c12
          refine j_aload_n C 0 dX6_luck_44 rfl 0 rfl ?_
          refine j_callVI (As := []) (rest := []) C 64 (c_X6_areTwo h) (cwV 0 C.2.2.2.2.2.1 gX6_luck_X6_areTwo rfl rfl rfl hdX6_areTwo ⟨Nat.le_of_ble_eq_true rfl, Nat.le_of_ble_eq_true rfl⟩) rfl rfl rfl rfl (Nat.le_of_ble_eq_true rfl) dX6_luck_45 (fun r14 σ13 h => ?_)
          refine j_if_ne C 55 dX6_luck_48 (by decide) (fun c15 => ?_) (fun c15 => ?_)
          · replace h := h.1 c15
            refine j_aload_n C 0 dX6_luck_55 rfl 0 rfl ?_
            refine j_iload_n C 1 dX6_luck_56 rfl 1 rfl ?_
            refine j_iload_n C 2 dX6_luck_57 rfl 2 rfl ?_
            refine j_iload_n C 3 dX6_luck_58 rfl 3 rfl ?_
            refine j_callVV (As := [.int a1, .int a2, .int a3]) (rest := []) C 64 (c_X6_findOdds h) (cwV 3 C.2.2.2.2.2.1 gX6_luck_X6_findOdds rfl rfl rfl hdX6_findOdds ⟨Nat.le_of_ble_eq_true rfl, Nat.le_of_ble_eq_true rfl⟩) rfl rfl rfl rfl (Nat.le_of_ble_eq_true rfl) dX6_luck_59 (fun σ16 h => ?_)
            refine j_aload_n C 0 dX6_luck_62 rfl 0 rfl ?_
            refine j_getL C 64 21 rfl rfl rfl in_X6_luck_X6 (by decide) (by decide +kernel) dX6_luck_63 ?_
            refine j_aload_n C 0 dX6_luck_66 rfl 0 rfl ?_
            refine j_getL C 64 23 rfl rfl rfl in_X6_luck_X6 (by decide) (by decide +kernel) dX6_luck_67 ?_
            refine j_iload C 4 dX6_luck_70 4 rfl ?_
            refine j_callSL (As := [.long (σ16.2 64 21), .long (σ16.2 64 23), .int a4]) (rest := []) C (c_X6_told h) (va_cwS 3 C.2.2.2.2.2.1 gX6_luck_X6_told rfl rfl rfl hdX6_told.2 ⟨Nat.le_of_ble_eq_true rfl, Nat.le_of_ble_eq_true rfl⟩) rfl rfl (Nat.le_of_ble_eq_true rfl) dX6_luck_72 (fun r18 σ17 h => ?_)
            exact j_lret C dX6_luck_75 h
          · replace h := h.2 c15
            refine j_ldc2 C (-2 : Int64) dX6_luck_51 (by decide +kernel) ?_
            exact j_lret C dX6_luck_54 h
        · replace h := h.2 c12
          refine j_ldc2 C (-1 : Int64) dX6_luck_40 (by decide +kernel) ?_
          exact j_lret C dX6_luck_43 h
def wp_X6_mean (a1 : Int32) (a2 : Int32) (a3 : Int32) (σ : Mem) (Q : Int64 → Mem → Prop) : Prop :=
  wp_X6_in ((a1).toInt64) (0 : Int64) (10 : Int64) σ (fun r2 σ1 => (r2 = 0 → Q (-1 : Int64) σ1) ∧ (¬ r2 = 0 → wp_X6_in ((a2).toInt64) (0 : Int64) (8 : Int64) σ1 (fun r5 σ4 => (r5 = 0 → Q (-1 : Int64) σ4) ∧ (¬ r5 = 0 → wp_X6_isPart a3 σ4 (fun r8 σ7 => (¬ r8 = 0 → wp_X6_areTwo σ7 (fun r11 σ10 => (¬ r11 = 0 → wp_X6_findOdds a1 (-4 : Int32) a2 σ10 (fun σ13 => wp_X6_told ((σ13.2 64 22)) ((σ13.2 64 23)) a3 σ13 (fun r15 σ14 => Q r15 σ14))) ∧ (r11 = 0 → Q (-2 : Int64) σ10))) ∧ (r8 = 0 → Q (-1 : Int64) σ7))))))
theorem in_X6_mean_X6 : ∀ w ∈ wsX60, w ∈ wsX6_mean := fun _ h => List.mem_cons_of_mem _ (List.mem_append_right _ h)
def rmX6_mean : Room := { frames := 4, cells := 0, slots := 0, locals := 95 }
theorem hdX6_mean : yX6_mean.cls = RX6 ∧ yX6_mean.cls ≠ "java/lang/invoke/MethodHandle" ∧ yX6_mean.cls ≠ "java/lang/invoke/VarHandle" ∧ (parseMethodDescriptor yX6_mean.desc).map (fun d => d.parameters.length) = some 3 := by decide +kernel
set_option maxHeartbeats 4000000 in
set_option maxRecDepth 100000 in
theorem c_X6_mean {l : Launch} {E : EE} {a1 : Int32} {a2 : Int32} {a3 : Int32}  {σ : Mem} {Q : Int64 → Mem → Prop} (h : wp_X6_mean a1 a2 a3 σ Q) : CtL l yX6_mean wsX6_mean rmX6_mean E [.ref (eA E 64), .int a1, .int a2, .int a3] σ Q := by
  refine metL (cc := cX6_mean) (nL := 4) (ret := (some .long)) (lv := [(0, .ref (eA E 64)), (1, .int a1), (2, .int a2), (3, .int a3)]) (by decide) rfl (Nat.le_of_ble_eq_true rfl) rfl ?_
  intro p e s m args below meth c C
  unfold wp_X6_mean at h
  refine j_iload_n C 1 dX6_mean_0 rfl 1 rfl ?_
  refine j_i2l C dX6_mean_1 rfl ?_
  refine j_lconst (v := (0 : Int64)) C dX6_mean_2 (by decide) ?_
  refine j_ldc2 C (10 : Int64) dX6_mean_3 (by decide +kernel) ?_
  refine j_callSI (As := [.long (a1).toInt64, .long (0 : Int64), .long (10 : Int64)]) (rest := []) C (c_X6_in h) (va_cwS 3 C.2.2.2.2.2.1 gX6_mean_X6_in rfl rfl rfl hdX6_in.2 ⟨Nat.le_of_ble_eq_true rfl, Nat.le_of_ble_eq_true rfl⟩) rfl rfl (Nat.le_of_ble_eq_true rfl) dX6_mean_6 (fun r2 σ1 h => ?_)
  refine j_if_eq C 31 dX6_mean_9 (by decide) (fun c3 => ?_) (fun c3 => ?_)
  · replace h := h.1 c3
    refine j_ldc2 C (-1 : Int64) dX6_mean_31 (by decide +kernel) ?_
    exact j_lret C dX6_mean_34 h
  · replace h := h.2 c3
    refine j_iload_n C 2 dX6_mean_12 rfl 2 rfl ?_
    refine j_i2l C dX6_mean_13 rfl ?_
    refine j_lconst (v := (0 : Int64)) C dX6_mean_14 (by decide) ?_
    refine j_ldc2 C (8 : Int64) dX6_mean_15 (by decide +kernel) ?_
    refine j_callSI (As := [.long (a2).toInt64, .long (0 : Int64), .long (8 : Int64)]) (rest := []) C (c_X6_in h) (va_cwS 3 C.2.2.2.2.2.1 gX6_mean_X6_in rfl rfl rfl hdX6_in.2 ⟨Nat.le_of_ble_eq_true rfl, Nat.le_of_ble_eq_true rfl⟩) rfl rfl (Nat.le_of_ble_eq_true rfl) dX6_mean_18 (fun r5 σ4 h => ?_)
    refine j_if_eq C 31 dX6_mean_21 (by decide) (fun c6 => ?_) (fun c6 => ?_)
    · replace h := h.1 c6
      refine j_ldc2 C (-1 : Int64) dX6_mean_31 (by decide +kernel) ?_
      exact j_lret C dX6_mean_34 h
    · replace h := h.2 c6
      refine j_iload_n C 3 dX6_mean_24 rfl 3 rfl ?_
      refine j_callSI (As := [.int a3]) (rest := []) C (c_X6_isPart h) (va_cwS 1 C.2.2.2.2.2.1 gX6_mean_X6_isPart rfl rfl rfl hdX6_isPart.2 ⟨Nat.le_of_ble_eq_true rfl, Nat.le_of_ble_eq_true rfl⟩) rfl rfl (Nat.le_of_ble_eq_true rfl) dX6_mean_25 (fun r8 σ7 h => ?_)
      refine j_if_ne C 35 dX6_mean_28 (by decide) (fun c9 => ?_) (fun c9 => ?_)
      · replace h := h.1 c9
        refine j_aload_n C 0 dX6_mean_35 rfl 0 rfl ?_
        refine j_callVI (As := []) (rest := []) C 64 (c_X6_areTwo h) (cwV 0 C.2.2.2.2.2.1 gX6_mean_X6_areTwo rfl rfl rfl hdX6_areTwo ⟨Nat.le_of_ble_eq_true rfl, Nat.le_of_ble_eq_true rfl⟩) rfl rfl rfl rfl (Nat.le_of_ble_eq_true rfl) dX6_mean_36 (fun r11 σ10 h => ?_)
        refine j_if_ne C 46 dX6_mean_39 (by decide) (fun c12 => ?_) (fun c12 => ?_)
        · replace h := h.1 c12
          refine j_aload_n C 0 dX6_mean_46 rfl 0 rfl ?_
          refine j_iload_n C 1 dX6_mean_47 rfl 1 rfl ?_
          refine j_bipush (v := (-4 : Int32)) C dX6_mean_48 (by decide) ?_
          refine j_iload_n C 2 dX6_mean_50 rfl 2 rfl ?_
          refine j_callVV (As := [.int a1, .int (-4 : Int32), .int a2]) (rest := []) C 64 (c_X6_findOdds h) (cwV 3 C.2.2.2.2.2.1 gX6_mean_X6_findOdds rfl rfl rfl hdX6_findOdds ⟨Nat.le_of_ble_eq_true rfl, Nat.le_of_ble_eq_true rfl⟩) rfl rfl rfl rfl (Nat.le_of_ble_eq_true rfl) dX6_mean_51 (fun σ13 h => ?_)
          refine j_aload_n C 0 dX6_mean_54 rfl 0 rfl ?_
          refine j_getL C 64 22 rfl rfl rfl in_X6_mean_X6 (by decide) (by decide +kernel) dX6_mean_55 ?_
          refine j_aload_n C 0 dX6_mean_58 rfl 0 rfl ?_
          refine j_getL C 64 23 rfl rfl rfl in_X6_mean_X6 (by decide) (by decide +kernel) dX6_mean_59 ?_
          refine j_iload_n C 3 dX6_mean_62 rfl 3 rfl ?_
          refine j_callSL (As := [.long (σ13.2 64 22), .long (σ13.2 64 23), .int a3]) (rest := []) C (c_X6_told h) (va_cwS 3 C.2.2.2.2.2.1 gX6_mean_X6_told rfl rfl rfl hdX6_told.2 ⟨Nat.le_of_ble_eq_true rfl, Nat.le_of_ble_eq_true rfl⟩) rfl rfl (Nat.le_of_ble_eq_true rfl) dX6_mean_63 (fun r15 σ14 h => ?_)
          exact j_lret C dX6_mean_66 h
        · replace h := h.2 c12
          refine j_ldc2 C (-2 : Int64) dX6_mean_42 (by decide +kernel) ?_
          exact j_lret C dX6_mean_45 h
      · replace h := h.2 c9
        refine j_ldc2 C (-1 : Int64) dX6_mean_31 (by decide +kernel) ?_
        exact j_lret C dX6_mean_34 h
def wp_X6_see (a1 : Int32) (a2 : Int32) (σ : Mem) (Q : Int32 → Mem → Prop) : Prop :=
  wp_X6_in ((a1).toInt64) (1 : Int64) (20 : Int64) σ (fun r2 σ1 => (r2 = 0 → Q (-1 : Int32) σ1) ∧ (¬ r2 = 0 → wp_X6_isHeir a2 σ1 (fun r5 σ4 => (¬ r5 = 0 → (¬ (σ4.1 65 ((36 : Int32)).toNatClampNeg) = (6 : Int32) → ∀ v8 : Int32, v8 = ((37 : Int32) + ((2 : Int32) * (σ4.1 65 ((36 : Int32)).toNatClampNeg))) → vp_in v8 147 ∧ (∀ σ9 : Mem, σ9 = st1 σ4 65 (v8).toNatClampNeg a1 → vp_in (v8 + (1 : Int32)) 147 ∧ (∀ σ10 : Mem, σ10 = st1 σ9 65 ((v8 + (1 : Int32))).toNatClampNeg a2 → ∀ σ11 : Mem, σ11 = st1 σ10 65 ((36 : Int32)).toNatClampNeg ((σ10.1 65 ((36 : Int32)).toNatClampNeg) + (1 : Int32)) → Q (σ11.1 65 ((36 : Int32)).toNatClampNeg) σ11))) ∧ ((σ4.1 65 ((36 : Int32)).toNatClampNeg) = (6 : Int32) → Q (-3 : Int32) σ4)) ∧ (r5 = 0 → Q (-1 : Int32) σ4))))
theorem in_X6_see_X6 : ∀ w ∈ wsX60, w ∈ wsX6_see := fun _ h => List.mem_cons_of_mem _ (List.mem_append_right _ h)
def rmX6_see : Room := { frames := 2, cells := 0, slots := 0, locals := 46 }
theorem hdX6_see : yX6_see.cls = RX6 ∧ yX6_see.cls ≠ "java/lang/invoke/MethodHandle" ∧ yX6_see.cls ≠ "java/lang/invoke/VarHandle" ∧ (parseMethodDescriptor yX6_see.desc).map (fun d => d.parameters.length) = some 2 := by decide +kernel
set_option maxHeartbeats 4000000 in
set_option maxRecDepth 100000 in
theorem c_X6_see {l : Launch} {E : EE} {a1 : Int32} {a2 : Int32}  {σ : Mem} {Q : Int32 → Mem → Prop} (h : wp_X6_see a1 a2 σ Q) : CtI l yX6_see wsX6_see rmX6_see E [.ref (eA E 64), .int a1, .int a2] σ Q := by
  refine metI (cc := cX6_see) (nL := 4) (ret := (some .int)) (lv := [(0, .ref (eA E 64)), (1, .int a1), (2, .int a2)]) (by decide) rfl (Nat.le_of_ble_eq_true rfl) rfl ?_
  intro p e s m args below meth c C
  unfold wp_X6_see at h
  refine j_iload_n C 1 dX6_see_0 rfl 1 rfl ?_
  refine j_i2l C dX6_see_1 rfl ?_
  refine j_lconst (v := (1 : Int64)) C dX6_see_2 (by decide) ?_
  refine j_ldc2 C (20 : Int64) dX6_see_3 (by decide +kernel) ?_
  refine j_callSI (As := [.long (a1).toInt64, .long (1 : Int64), .long (20 : Int64)]) (rest := []) C (c_X6_in h) (va_cwS 3 C.2.2.2.2.2.1 gX6_see_X6_in rfl rfl rfl hdX6_in.2 ⟨Nat.le_of_ble_eq_true rfl, Nat.le_of_ble_eq_true rfl⟩) rfl rfl (Nat.le_of_ble_eq_true rfl) dX6_see_6 (fun r2 σ1 h => ?_)
  refine j_if_eq C 20 dX6_see_9 (by decide) (fun c3 => ?_) (fun c3 => ?_)
  · replace h := h.1 c3
    refine j_iconst (v := (-1 : Int32)) C dX6_see_20 (by decide) ?_
    exact j_iret C dX6_see_21 h
  · replace h := h.2 c3
    refine j_aload_n C 0 dX6_see_12 rfl 0 rfl ?_
    refine j_iload_n C 2 dX6_see_13 rfl 2 rfl ?_
    refine j_callVI (As := [.int a2]) (rest := []) C 64 (c_X6_isHeir h) (cwV 1 C.2.2.2.2.2.1 gX6_see_X6_isHeir rfl rfl rfl hdX6_isHeir ⟨Nat.le_of_ble_eq_true rfl, Nat.le_of_ble_eq_true rfl⟩) rfl rfl rfl rfl (Nat.le_of_ble_eq_true rfl) dX6_see_14 (fun r5 σ4 h => ?_)
    refine j_if_ne C 22 dX6_see_17 (by decide) (fun c6 => ?_) (fun c6 => ?_)
    · replace h := h.1 c6
      refine j_aload_n C 0 dX6_see_22 rfl 0 rfl ?_
      refine j_getR C 65 64 0 rfl rfl rfl in_X6_see_X6 (by decide) (by decide +kernel) dX6_see_23 ?_
      refine j_bipush (v := (36 : Int32)) C dX6_see_26 (by decide) ?_
      refine j_iald C 65 rfl dX6_see_28 (in_lit rfl) ?_
      refine j_bipush (v := (6 : Int32)) C dX6_see_29 (by decide) ?_
      refine j_icmp_ne C 37 dX6_see_31 (by decide) (fun c7 => ?_) (fun c7 => ?_)
      · replace h := h.1 c7
        refine j_bipush (v := (37 : Int32)) C dX6_see_37 (by decide) ?_
        refine j_iconst (v := (2 : Int32)) C dX6_see_39 (by decide) ?_
        refine j_aload_n C 0 dX6_see_40 rfl 0 rfl ?_
        refine j_getR C 65 64 0 rfl rfl rfl in_X6_see_X6 (by decide) (by decide +kernel) dX6_see_41 ?_
        refine j_bipush (v := (36 : Int32)) C dX6_see_44 (by decide) ?_
        refine j_iald C 65 rfl dX6_see_46 (in_lit rfl) ?_
        refine j_imul C dX6_see_47 ?_
        refine j_iadd C dX6_see_48 ?_
        refine j_topi (fun v8 ev8 => ?_)
        replace h := h v8 ev8
        refine j_istore_n (lv' := [(3, .int v8), (0, .ref (eA E 64)), (1, .int a1), (2, .int a2)]) C 3 dX6_see_49 rfl (by decide) rfl ?_
        refine j_aload_n C 0 dX6_see_50 rfl 1 rfl ?_
        refine j_getR C 65 64 0 rfl rfl rfl in_X6_see_X6 (by decide) (by decide +kernel) dX6_see_51 ?_
        refine j_iload_n C 3 dX6_see_54 rfl 0 rfl ?_
        refine j_iload_n C 1 dX6_see_55 rfl 2 rfl ?_
        refine j_iast C 65 rfl dX6_see_56 h.1 ?_
        replace h := h.2
        refine j_mem (fun σ9 eσ9 => ?_)
        replace h := h σ9 eσ9
        refine j_aload_n C 0 dX6_see_57 rfl 1 rfl ?_
        refine j_getR C 65 64 0 rfl rfl rfl in_X6_see_X6 (by decide) (by decide +kernel) dX6_see_58 ?_
        refine j_iload_n C 3 dX6_see_61 rfl 0 rfl ?_
        refine j_iconst (v := (1 : Int32)) C dX6_see_62 (by decide) ?_
        refine j_iadd C dX6_see_63 ?_
        refine j_iload_n C 2 dX6_see_64 rfl 3 rfl ?_
        refine j_iast C 65 rfl dX6_see_65 h.1 ?_
        replace h := h.2
        refine j_mem (fun σ10 eσ10 => ?_)
        replace h := h σ10 eσ10
        refine j_aload_n C 0 dX6_see_66 rfl 1 rfl ?_
        refine j_getR C 65 64 0 rfl rfl rfl in_X6_see_X6 (by decide) (by decide +kernel) dX6_see_67 ?_
        refine j_bipush (v := (36 : Int32)) C dX6_see_70 (by decide) ?_
        refine j_dup2 C dX6_see_72 rfl rfl ?_
        refine j_iald C 65 rfl dX6_see_73 (in_lit rfl) ?_
        refine j_iconst (v := (1 : Int32)) C dX6_see_74 (by decide) ?_
        refine j_iadd C dX6_see_75 ?_
        refine j_iast C 65 rfl dX6_see_76 (in_lit rfl) ?_
        refine j_mem (fun σ11 eσ11 => ?_)
        replace h := h σ11 eσ11
        refine j_aload_n C 0 dX6_see_77 rfl 1 rfl ?_
        refine j_getR C 65 64 0 rfl rfl rfl in_X6_see_X6 (by decide) (by decide +kernel) dX6_see_78 ?_
        refine j_bipush (v := (36 : Int32)) C dX6_see_81 (by decide) ?_
        refine j_iald C 65 rfl dX6_see_83 (in_lit rfl) ?_
        exact j_iret C dX6_see_84 h
      · replace h := h.2 c7
        refine j_bipush (v := (-3 : Int32)) C dX6_see_34 (by decide) ?_
        exact j_iret C dX6_see_36 h
    · replace h := h.2 c6
      refine j_iconst (v := (-1 : Int32)) C dX6_see_20 (by decide) ?_
      exact j_iret C dX6_see_21 h
def wp_X6_forget (a1 : Int32) (σ : Mem) (Q : Int32 → Mem → Prop) : Prop :=
  wp_X6_in ((a1).toInt64) (0 : Int64) (((σ.1 65 ((36 : Int32)).toNatClampNeg)).toInt64) σ (fun r2 σ1 => (r2 = 0 → Q (-1 : Int32) σ1) ∧ (¬ r2 = 0 → wp_X6_becomes (36 : Int32) a1 σ1 (fun r5 σ4 => Q r5 σ4)))
theorem in_X6_forget_X6 : ∀ w ∈ wsX60, w ∈ wsX6_forget := fun _ h => List.mem_cons_of_mem _ (List.mem_append_right _ h)
def rmX6_forget : Room := { frames := 1, cells := 0, slots := 0, locals := 25 }
theorem hdX6_forget : yX6_forget.cls = RX6 ∧ yX6_forget.cls ≠ "java/lang/invoke/MethodHandle" ∧ yX6_forget.cls ≠ "java/lang/invoke/VarHandle" ∧ (parseMethodDescriptor yX6_forget.desc).map (fun d => d.parameters.length) = some 1 := by decide +kernel
set_option maxHeartbeats 4000000 in
set_option maxRecDepth 100000 in
theorem c_X6_forget {l : Launch} {E : EE} {a1 : Int32}  {σ : Mem} {Q : Int32 → Mem → Prop} (h : wp_X6_forget a1 σ Q) : CtI l yX6_forget wsX6_forget rmX6_forget E [.ref (eA E 64), .int a1] σ Q := by
  refine metI (cc := cX6_forget) (nL := 2) (ret := (some .int)) (lv := [(0, .ref (eA E 64)), (1, .int a1)]) (by decide) rfl (Nat.le_of_ble_eq_true rfl) rfl ?_
  intro p e s m args below meth c C
  unfold wp_X6_forget at h
  refine j_iload_n C 1 dX6_forget_0 rfl 1 rfl ?_
  refine j_i2l C dX6_forget_1 rfl ?_
  refine j_lconst (v := (0 : Int64)) C dX6_forget_2 (by decide) ?_
  refine j_aload_n C 0 dX6_forget_3 rfl 0 rfl ?_
  refine j_getR C 65 64 0 rfl rfl rfl in_X6_forget_X6 (by decide) (by decide +kernel) dX6_forget_4 ?_
  refine j_bipush (v := (36 : Int32)) C dX6_forget_7 (by decide) ?_
  refine j_iald C 65 rfl dX6_forget_9 (in_lit rfl) ?_
  refine j_i2l C dX6_forget_10 rfl ?_
  refine j_callSI (As := [.long (a1).toInt64, .long (0 : Int64), .long ((σ.1 65 ((36 : Int32)).toNatClampNeg)).toInt64]) (rest := []) C (c_X6_in h) (va_cwS 3 C.2.2.2.2.2.1 gX6_forget_X6_in rfl rfl rfl hdX6_in.2 ⟨Nat.le_of_ble_eq_true rfl, Nat.le_of_ble_eq_true rfl⟩) rfl rfl (Nat.le_of_ble_eq_true rfl) dX6_forget_11 (fun r2 σ1 h => ?_)
  refine j_if_eq C 27 dX6_forget_14 (by decide) (fun c3 => ?_) (fun c3 => ?_)
  · replace h := h.1 c3
    refine j_iconst (v := (-1 : Int32)) C dX6_forget_27 (by decide) ?_
    exact j_iret C dX6_forget_28 h
  · replace h := h.2 c3
    refine j_aload_n C 0 dX6_forget_17 rfl 0 rfl ?_
    refine j_bipush (v := (36 : Int32)) C dX6_forget_18 (by decide) ?_
    refine j_iload_n C 1 dX6_forget_20 rfl 1 rfl ?_
    refine j_callVI (As := [.int (36 : Int32), .int a1]) (rest := []) C 64 (c_X6_becomes h) (cwV 2 C.2.2.2.2.2.1 gX6_forget_X6_becomes rfl rfl rfl hdX6_becomes ⟨Nat.le_of_ble_eq_true rfl, Nat.le_of_ble_eq_true rfl⟩) rfl rfl rfl rfl (Nat.le_of_ble_eq_true rfl) dX6_forget_21 (fun r5 σ4 h => ?_)
    refine j_goto C 28 dX6_forget_24 (by decide) ?_
    exact j_iret C dX6_forget_28 h
def wp_X6_isSoWith (a1 : Int32) (a2 : Int32) (a3 : Int32) (σ : Mem) (Q : Int32 → Mem → Prop) : Prop :=
  ∀ (P14 : Int32 → Mem → Prop) (P49 : Int32 → Int32 → Mem → Prop) (P104 : Int32 → Mem → Prop) (P105 : Int32 → Int32 → Mem → Prop),
  (∀ (x4 : Int32) (σ : Mem), (((20 : Int32) < x4 → P49 (1 : Int32) (0 : Int32) σ) ∧ (¬ (20 : Int32) < x4 → wp_X6_reignGoes (0 : Int32) σ (fun σ2 => vp_in x4 21 ∧ (∀ σ3 : Mem, σ3 = st1 σ2 72 (x4).toNatClampNeg (σ2.1 64 17) → ∀ v4 : Int32, v4 = x4 + (1 : Int32) → P14 v4 σ3)))) → P14 x4 σ) →
  (∀ (x4 : Int32) (x5 : Int32) (σ : Mem), (((σ.1 65 ((36 : Int32)).toNatClampNeg) ≤ x5 → (x4 = 0 ∨ x4 = 1) ∧ Q x4 σ) ∧ (¬ (σ.1 65 ((36 : Int32)).toNatClampNeg) ≤ x5 → (x4 = 0 → P104 x5 σ) ∧ (¬ x4 = 0 → vp_in ((37 : Int32) + ((2 : Int32) * x5)) 147 ∧ (vp_in (σ.1 65 (((37 : Int32) + ((2 : Int32) * x5))).toNatClampNeg) 21 ∧ (vp_in (((37 : Int32) + ((2 : Int32) * x5)) + (1 : Int32)) 147 ∧ ((¬ (σ.1 72 ((σ.1 65 (((37 : Int32) + ((2 : Int32) * x5))).toNatClampNeg)).toNatClampNeg) = (σ.1 65 ((((37 : Int32) + ((2 : Int32) * x5)) + (1 : Int32))).toNatClampNeg) → P104 x5 σ) ∧ ((σ.1 72 ((σ.1 65 (((37 : Int32) + ((2 : Int32) * x5))).toNatClampNeg)).toNatClampNeg) = (σ.1 65 ((((37 : Int32) + ((2 : Int32) * x5)) + (1 : Int32))).toNatClampNeg) → P105 x5 (1 : Int32) σ))))))) → P49 x4 x5 σ) →
  (∀ (x5 : Int32) (σ : Mem), (P105 x5 (0 : Int32) σ) → P104 x5 σ) →
  (∀ (x5 : Int32) (s0 : Int32) (σ : Mem), (∀ v8 : Int32, v8 = x5 + (1 : Int32) → P49 s0 v8 σ) → P105 x5 s0 σ) →
  wp_X6_starts σ (fun σ9 => wp_X6_becomesOf a1 a2 a3 σ9 (fun σ10 => P14 (1 : Int32) σ10))
theorem in_X6_isSoWith_X6 : ∀ w ∈ wsX60, w ∈ wsX6_isSoWith := fun _ h => List.mem_cons_of_mem _ (List.mem_append_right _ h)
def rmX6_isSoWith : Room := { frames := 3, cells := 0, slots := 0, locals := 67 }
theorem hdX6_isSoWith : yX6_isSoWith.cls = RX6 ∧ yX6_isSoWith.cls ≠ "java/lang/invoke/MethodHandle" ∧ yX6_isSoWith.cls ≠ "java/lang/invoke/VarHandle" ∧ (parseMethodDescriptor yX6_isSoWith.desc).map (fun d => d.parameters.length) = some 3 := by decide +kernel
set_option maxHeartbeats 4000000 in
set_option maxRecDepth 100000 in
theorem c_X6_isSoWith {l : Launch} {E : EE} {a1 : Int32} {a2 : Int32} {a3 : Int32}  {σ : Mem} {Q : Int32 → Mem → Prop} (h : wp_X6_isSoWith a1 a2 a3 σ Q) : CtI l yX6_isSoWith wsX6_isSoWith rmX6_isSoWith E [.ref (eA E 64), .int a1, .int a2, .int a3] σ Q := by
  refine metI (cc := cX6_isSoWith) (nL := 6) (ret := (some .boolean)) (lv := [(0, .ref (eA E 64)), (1, .int a1), (2, .int a2), (3, .int a3)]) (by decide) rfl (Nat.le_of_ble_eq_true rfl) rfl ?_
  intro p e s m args below meth c C
  unfold wp_X6_isSoWith at h
  replace h := h (fun (x4 : Int32) (σ : Mem) => J E p l e rmX6_isSoWith s m args below meth c (QI E below args s Q) 6 14 [(0, .ref (eA E 64)), (4, .int x4)] [] σ) (fun (x4 : Int32) (x5 : Int32) (σ : Mem) => J E p l e rmX6_isSoWith s m args below meth c (QI E below args s Q) 6 49 [(0, .ref (eA E 64)), (4, .int x4), (5, .int x5)] [] σ) (fun (x5 : Int32) (σ : Mem) => J E p l e rmX6_isSoWith s m args below meth c (QI E below args s Q) 6 104 [(0, .ref (eA E 64)), (5, .int x5)] [] σ) (fun (x5 : Int32) (s0 : Int32) (σ : Mem) => J E p l e rmX6_isSoWith s m args below meth c (QI E below args s Q) 6 105 [(0, .ref (eA E 64)), (5, .int x5)] [.int s0] σ) (by
    intro x4 σ h
    refine j_iload C 4 dX6_isSoWith_14 1 rfl ?_
    refine j_bipush (v := (20 : Int32)) C dX6_isSoWith_16 (by decide) ?_
    refine j_icmp_gt C 43 dX6_isSoWith_18 (by decide) (fun c1 => ?_) (fun c1 => ?_)
    · replace h := h.1 c1
      refine j_iconst (v := (1 : Int32)) C dX6_isSoWith_43 (by decide) ?_
      refine j_istore (lv' := [(4, .int (1 : Int32)), (0, .ref (eA E 64))]) C 4 dX6_isSoWith_44 (by decide) rfl ?_
      refine j_iconst (v := (0 : Int32)) C dX6_isSoWith_46 (by decide) ?_
      refine j_istore (lv' := [(5, .int (0 : Int32)), (4, .int (1 : Int32)), (0, .ref (eA E 64))]) C 5 dX6_isSoWith_47 (by decide) rfl ?_
      exact j_sub (lv' := [(0, .ref (eA E 64)), (4, .int (1 : Int32)), (5, .int (0 : Int32))]) [2, 1, 0] rfl h
    · replace h := h.2 c1
      refine j_aload_n C 0 dX6_isSoWith_21 rfl 0 rfl ?_
      refine j_iconst (v := (0 : Int32)) C dX6_isSoWith_22 (by decide) ?_
      refine j_callVV (As := [.int (0 : Int32)]) (rest := []) C 64 (c_X6_reignGoes h) (cwV 1 C.2.2.2.2.2.1 gX6_isSoWith_X6_reignGoes rfl rfl rfl hdX6_reignGoes ⟨Nat.le_of_ble_eq_true rfl, Nat.le_of_ble_eq_true rfl⟩) rfl rfl rfl rfl (Nat.le_of_ble_eq_true rfl) dX6_isSoWith_23 (fun σ2 h => ?_)
      refine j_aload_n C 0 dX6_isSoWith_26 rfl 0 rfl ?_
      refine j_getR C 72 64 24 rfl rfl rfl in_X6_isSoWith_X6 (by decide) (by decide +kernel) dX6_isSoWith_27 ?_
      refine j_iload C 4 dX6_isSoWith_30 1 rfl ?_
      refine j_aload_n C 0 dX6_isSoWith_32 rfl 0 rfl ?_
      refine j_getI C 64 17 rfl rfl rfl in_X6_isSoWith_X6 (by decide) (by decide +kernel) dX6_isSoWith_33 ?_
      refine j_iast C 72 rfl dX6_isSoWith_36 h.1 ?_
      replace h := h.2
      refine j_mem (fun σ3 eσ3 => ?_)
      replace h := h σ3 eσ3
      obtain ⟨v4, ev4⟩ : ∃ y : Int32, y = x4 + (1 : Int32) := ⟨_, rfl⟩
      replace h := h v4 ev4
      refine j_iinc (v := v4) (lv' := [(4, .int v4), (0, .ref (eA E 64))]) C 4 dX6_isSoWith_37 1 rfl (by rw [ev4]; rfl) (by decide) rfl ?_
      refine j_goto C 14 dX6_isSoWith_40 (by decide) ?_
      exact j_sub (lv' := [(0, .ref (eA E 64)), (4, .int v4)]) [1, 0] rfl h) (by
    intro x4 x5 σ h
    refine j_iload C 5 dX6_isSoWith_49 2 rfl ?_
    refine j_aload_n C 0 dX6_isSoWith_51 rfl 0 rfl ?_
    refine j_getR C 65 64 0 rfl rfl rfl in_X6_isSoWith_X6 (by decide) (by decide +kernel) dX6_isSoWith_52 ?_
    refine j_bipush (v := (36 : Int32)) C dX6_isSoWith_55 (by decide) ?_
    refine j_iald C 65 rfl dX6_isSoWith_57 (in_lit rfl) ?_
    refine j_icmp_ge C 113 dX6_isSoWith_58 (by decide) (fun c5 => ?_) (fun c5 => ?_)
    · replace h := h.1 c5
      refine j_iload C 4 dX6_isSoWith_113 1 rfl ?_
      exact j_zret C dX6_isSoWith_115 h.1 h.2
    · replace h := h.2 c5
      refine j_iload C 4 dX6_isSoWith_61 1 rfl ?_
      refine j_if_eq C 104 dX6_isSoWith_63 (by decide) (fun c6 => ?_) (fun c6 => ?_)
      · replace h := h.1 c6
        exact j_sub (lv' := [(0, .ref (eA E 64)), (5, .int x5)]) [0, 2] rfl h
      · replace h := h.2 c6
        refine j_aload_n C 0 dX6_isSoWith_66 rfl 0 rfl ?_
        refine j_getR C 72 64 24 rfl rfl rfl in_X6_isSoWith_X6 (by decide) (by decide +kernel) dX6_isSoWith_67 ?_
        refine j_aload_n C 0 dX6_isSoWith_70 rfl 0 rfl ?_
        refine j_getR C 65 64 0 rfl rfl rfl in_X6_isSoWith_X6 (by decide) (by decide +kernel) dX6_isSoWith_71 ?_
        refine j_bipush (v := (37 : Int32)) C dX6_isSoWith_74 (by decide) ?_
        refine j_iconst (v := (2 : Int32)) C dX6_isSoWith_76 (by decide) ?_
        refine j_iload C 5 dX6_isSoWith_77 2 rfl ?_
        refine j_imul C dX6_isSoWith_79 ?_
        refine j_iadd C dX6_isSoWith_80 ?_
        refine j_iald C 65 rfl dX6_isSoWith_81 h.1 ?_
        replace h := h.2
        refine j_iald C 72 rfl dX6_isSoWith_82 h.1 ?_
        replace h := h.2
        refine j_aload_n C 0 dX6_isSoWith_83 rfl 0 rfl ?_
        refine j_getR C 65 64 0 rfl rfl rfl in_X6_isSoWith_X6 (by decide) (by decide +kernel) dX6_isSoWith_84 ?_
        refine j_bipush (v := (37 : Int32)) C dX6_isSoWith_87 (by decide) ?_
        refine j_iconst (v := (2 : Int32)) C dX6_isSoWith_89 (by decide) ?_
        refine j_iload C 5 dX6_isSoWith_90 2 rfl ?_
        refine j_imul C dX6_isSoWith_92 ?_
        refine j_iadd C dX6_isSoWith_93 ?_
        refine j_iconst (v := (1 : Int32)) C dX6_isSoWith_94 (by decide) ?_
        refine j_iadd C dX6_isSoWith_95 ?_
        refine j_iald C 65 rfl dX6_isSoWith_96 h.1 ?_
        replace h := h.2
        refine j_icmp_ne C 104 dX6_isSoWith_97 (by decide) (fun c7 => ?_) (fun c7 => ?_)
        · replace h := h.1 c7
          exact j_sub (lv' := [(0, .ref (eA E 64)), (5, .int x5)]) [0, 2] rfl h
        · replace h := h.2 c7
          refine j_iconst (v := (1 : Int32)) C dX6_isSoWith_100 (by decide) ?_
          refine j_goto C 105 dX6_isSoWith_101 (by decide) ?_
          exact j_sub (lv' := [(0, .ref (eA E 64)), (5, .int x5)]) [0, 2] rfl h) (by
    intro x5 σ h
    refine j_iconst (v := (0 : Int32)) C dX6_isSoWith_104 (by decide) ?_
    exact j_sub (lv' := [(0, .ref (eA E 64)), (5, .int x5)]) [0, 1] rfl h) (by
    intro x5 s0 σ h
    refine j_istore (lv' := [(4, .int s0), (0, .ref (eA E 64)), (5, .int x5)]) C 4 dX6_isSoWith_105 (by decide) rfl ?_
    obtain ⟨v8, ev8⟩ : ∃ y : Int32, y = x5 + (1 : Int32) := ⟨_, rfl⟩
    replace h := h v8 ev8
    refine j_iinc (v := v8) (lv' := [(5, .int v8), (4, .int s0), (0, .ref (eA E 64))]) C 5 dX6_isSoWith_107 2 rfl (by rw [ev8]; rfl) (by decide) rfl ?_
    refine j_goto C 49 dX6_isSoWith_110 (by decide) ?_
    exact j_sub (lv' := [(0, .ref (eA E 64)), (4, .int s0), (5, .int v8)]) [2, 1, 0] rfl h)
  refine j_aload_n C 0 dX6_isSoWith_0 rfl 0 rfl ?_
  refine j_callVV (As := []) (rest := []) C 64 (c_X6_starts h) (cwV 0 C.2.2.2.2.2.1 gX6_isSoWith_X6_starts rfl rfl rfl hdX6_starts ⟨Nat.le_of_ble_eq_true rfl, Nat.le_of_ble_eq_true rfl⟩) rfl rfl rfl rfl (Nat.le_of_ble_eq_true rfl) dX6_isSoWith_1 (fun σ9 h => ?_)
  refine j_aload_n C 0 dX6_isSoWith_4 rfl 0 rfl ?_
  refine j_iload_n C 1 dX6_isSoWith_5 rfl 1 rfl ?_
  refine j_iload_n C 2 dX6_isSoWith_6 rfl 2 rfl ?_
  refine j_iload_n C 3 dX6_isSoWith_7 rfl 3 rfl ?_
  refine j_callVV (As := [.int a1, .int a2, .int a3]) (rest := []) C 64 (c_X6_becomesOf h) (cwV 3 C.2.2.2.2.2.1 gX6_isSoWith_X6_becomesOf rfl rfl rfl hdX6_becomesOf ⟨Nat.le_of_ble_eq_true rfl, Nat.le_of_ble_eq_true rfl⟩) rfl rfl rfl rfl (Nat.le_of_ble_eq_true rfl) dX6_isSoWith_8 (fun σ10 h => ?_)
  refine j_iconst (v := (1 : Int32)) C dX6_isSoWith_11 (by decide) ?_
  refine j_istore (lv' := [(4, .int (1 : Int32)), (0, .ref (eA E 64)), (1, .int a1), (2, .int a2), (3, .int a3)]) C 4 dX6_isSoWith_12 (by decide) rfl ?_
  exact j_sub (lv' := [(0, .ref (eA E 64)), (4, .int (1 : Int32))]) [1, 0] rfl h
def wp_X6_kinds (a1 : Int32) (σ : Mem) (Q : Int32 → Mem → Prop) : Prop :=
  ∀ (P24 : Int32 → Int32 → Mem → Prop),
  (∀ (x2 : Int32) (x3 : Int32) (σ : Mem), (((4 : Int32) ≤ x3 → Q x2 σ) ∧ (¬ (4 : Int32) ≤ x3 → wp_X6_isSoWith a1 (0 : Int32) x3 σ (fun r3 σ2 => wp_X6_flag r3 σ2 (fun r5 σ4 => ∀ v6 : Int32, v6 = (x2 ||| (r5 <<< (x3 &&& 31))) → ∀ v7 : Int32, v7 = x3 + (1 : Int32) → P24 v6 v7 σ4)))) → P24 x2 x3 σ) →
  wp_X6_isHeir a1 σ (fun r9 σ8 => (¬ r9 = 0 → wp_X6_areTwo σ8 (fun r12 σ11 => (¬ r12 = 0 → P24 (0 : Int32) (0 : Int32) σ11) ∧ (r12 = 0 → Q (-2 : Int32) σ11))) ∧ (r9 = 0 → Q (-1 : Int32) σ8))
def rmX6_kinds : Room := { frames := 4, cells := 0, slots := 0, locals := 92 }
theorem hdX6_kinds : yX6_kinds.cls = RX6 ∧ yX6_kinds.cls ≠ "java/lang/invoke/MethodHandle" ∧ yX6_kinds.cls ≠ "java/lang/invoke/VarHandle" ∧ (parseMethodDescriptor yX6_kinds.desc).map (fun d => d.parameters.length) = some 1 := by decide +kernel
set_option maxHeartbeats 4000000 in
set_option maxRecDepth 100000 in
theorem c_X6_kinds {l : Launch} {E : EE} {a1 : Int32}  {σ : Mem} {Q : Int32 → Mem → Prop} (h : wp_X6_kinds a1 σ Q) : CtI l yX6_kinds wsX6_kinds rmX6_kinds E [.ref (eA E 64), .int a1] σ Q := by
  refine metI (cc := cX6_kinds) (nL := 4) (ret := (some .int)) (lv := [(0, .ref (eA E 64)), (1, .int a1)]) (by decide) rfl (Nat.le_of_ble_eq_true rfl) rfl ?_
  intro p e s m args below meth c C
  unfold wp_X6_kinds at h
  replace h := h (fun (x2 : Int32) (x3 : Int32) (σ : Mem) => J E p l e rmX6_kinds s m args below meth c (QI E below args s Q) 4 24 [(0, .ref (eA E 64)), (1, .int a1), (2, .int x2), (3, .int x3)] [] σ) (by
    intro x2 x3 σ h
    refine j_iload_n C 3 dX6_kinds_24 rfl 3 rfl ?_
    refine j_iconst (v := (4 : Int32)) C dX6_kinds_25 (by decide) ?_
    refine j_icmp_ge C 50 dX6_kinds_26 (by decide) (fun c1 => ?_) (fun c1 => ?_)
    · replace h := h.1 c1
      refine j_iload_n C 2 dX6_kinds_50 rfl 2 rfl ?_
      exact j_iret C dX6_kinds_51 h
    · replace h := h.2 c1
      refine j_iload_n C 2 dX6_kinds_29 rfl 2 rfl ?_
      refine j_aload_n C 0 dX6_kinds_30 rfl 0 rfl ?_
      refine j_iload_n C 1 dX6_kinds_31 rfl 1 rfl ?_
      refine j_iconst (v := (0 : Int32)) C dX6_kinds_32 (by decide) ?_
      refine j_iload_n C 3 dX6_kinds_33 rfl 3 rfl ?_
      refine j_callVI (As := [.int a1, .int (0 : Int32), .int x3]) (rest := [.int x2]) C 64 (c_X6_isSoWith h) (cwV 3 C.2.2.2.2.2.1 gX6_kinds_X6_isSoWith rfl rfl rfl hdX6_isSoWith ⟨Nat.le_of_ble_eq_true rfl, Nat.le_of_ble_eq_true rfl⟩) rfl rfl rfl rfl (Nat.le_of_ble_eq_true rfl) dX6_kinds_34 (fun r3 σ2 h => ?_)
      refine j_callSI (As := [.int r3]) (rest := [.int x2]) C (c_X6_flag h) (va_cwS 1 C.2.2.2.2.2.1 gX6_kinds_X6_flag rfl rfl rfl hdX6_flag.2 ⟨Nat.le_of_ble_eq_true rfl, Nat.le_of_ble_eq_true rfl⟩) rfl rfl (Nat.le_of_ble_eq_true rfl) dX6_kinds_37 (fun r5 σ4 h => ?_)
      refine j_iload_n C 3 dX6_kinds_40 rfl 3 rfl ?_
      refine j_ishl C dX6_kinds_41 ?_
      refine j_ior C dX6_kinds_42 ?_
      refine j_topi (fun v6 ev6 => ?_)
      replace h := h v6 ev6
      refine j_istore_n (lv' := [(2, .int v6), (0, .ref (eA E 64)), (1, .int a1), (3, .int x3)]) C 2 dX6_kinds_43 rfl (by decide) rfl ?_
      obtain ⟨v7, ev7⟩ : ∃ y : Int32, y = x3 + (1 : Int32) := ⟨_, rfl⟩
      replace h := h v7 ev7
      refine j_iinc (v := v7) (lv' := [(3, .int v7), (2, .int v6), (0, .ref (eA E 64)), (1, .int a1)]) C 3 dX6_kinds_44 3 rfl (by rw [ev7]; rfl) (by decide) rfl ?_
      refine j_goto C 24 dX6_kinds_47 (by decide) ?_
      exact j_sub (lv' := [(0, .ref (eA E 64)), (1, .int a1), (2, .int v6), (3, .int v7)]) [2, 3, 1, 0] rfl h)
  refine j_aload_n C 0 dX6_kinds_0 rfl 0 rfl ?_
  refine j_iload_n C 1 dX6_kinds_1 rfl 1 rfl ?_
  refine j_callVI (As := [.int a1]) (rest := []) C 64 (c_X6_isHeir h) (cwV 1 C.2.2.2.2.2.1 gX6_kinds_X6_isHeir rfl rfl rfl hdX6_isHeir ⟨Nat.le_of_ble_eq_true rfl, Nat.le_of_ble_eq_true rfl⟩) rfl rfl rfl rfl (Nat.le_of_ble_eq_true rfl) dX6_kinds_2 (fun r9 σ8 h => ?_)
  refine j_if_ne C 10 dX6_kinds_5 (by decide) (fun c10 => ?_) (fun c10 => ?_)
  · replace h := h.1 c10
    refine j_aload_n C 0 dX6_kinds_10 rfl 0 rfl ?_
    refine j_callVI (As := []) (rest := []) C 64 (c_X6_areTwo h) (cwV 0 C.2.2.2.2.2.1 gX6_kinds_X6_areTwo rfl rfl rfl hdX6_areTwo ⟨Nat.le_of_ble_eq_true rfl, Nat.le_of_ble_eq_true rfl⟩) rfl rfl rfl rfl (Nat.le_of_ble_eq_true rfl) dX6_kinds_11 (fun r12 σ11 h => ?_)
    refine j_if_ne C 20 dX6_kinds_14 (by decide) (fun c13 => ?_) (fun c13 => ?_)
    · replace h := h.1 c13
      refine j_iconst (v := (0 : Int32)) C dX6_kinds_20 (by decide) ?_
      refine j_istore_n (lv' := [(2, .int (0 : Int32)), (0, .ref (eA E 64)), (1, .int a1)]) C 2 dX6_kinds_21 rfl (by decide) rfl ?_
      refine j_iconst (v := (0 : Int32)) C dX6_kinds_22 (by decide) ?_
      refine j_istore_n (lv' := [(3, .int (0 : Int32)), (2, .int (0 : Int32)), (0, .ref (eA E 64)), (1, .int a1)]) C 3 dX6_kinds_23 rfl (by decide) rfl ?_
      exact j_sub (lv' := [(0, .ref (eA E 64)), (1, .int a1), (2, .int (0 : Int32)), (3, .int (0 : Int32))]) [2, 3, 1, 0] rfl h
    · replace h := h.2 c13
      refine j_bipush (v := (-2 : Int32)) C dX6_kinds_17 (by decide) ?_
      exact j_iret C dX6_kinds_19 h
  · replace h := h.2 c10
    refine j_iconst (v := (-1 : Int32)) C dX6_kinds_8 (by decide) ?_
    exact j_iret C dX6_kinds_9 h
def wp_X6_springs (a1 : Int32) (σ : Mem) (Q : Int32 → Mem → Prop) : Prop :=
  ∀ (P24 : Int32 → Int32 → Mem → Prop),
  (∀ (x2 : Int32) (x3 : Int32) (σ : Mem), (((20 : Int32) < x3 → Q x2 σ) ∧ (¬ (20 : Int32) < x3 → wp_X6_isSoWith a1 (1 : Int32) x3 σ (fun r3 σ2 => wp_X6_flag r3 σ2 (fun r5 σ4 => ∀ v6 : Int32, v6 = (x2 ||| (r5 <<< (x3 &&& 31))) → ∀ v7 : Int32, v7 = x3 + (1 : Int32) → P24 v6 v7 σ4)))) → P24 x2 x3 σ) →
  wp_X6_isHeir a1 σ (fun r9 σ8 => (¬ r9 = 0 → wp_X6_areTwo σ8 (fun r12 σ11 => (¬ r12 = 0 → P24 (0 : Int32) (0 : Int32) σ11) ∧ (r12 = 0 → Q (-2 : Int32) σ11))) ∧ (r9 = 0 → Q (-1 : Int32) σ8))
def rmX6_springs : Room := { frames := 4, cells := 0, slots := 0, locals := 92 }
theorem hdX6_springs : yX6_springs.cls = RX6 ∧ yX6_springs.cls ≠ "java/lang/invoke/MethodHandle" ∧ yX6_springs.cls ≠ "java/lang/invoke/VarHandle" ∧ (parseMethodDescriptor yX6_springs.desc).map (fun d => d.parameters.length) = some 1 := by decide +kernel
set_option maxHeartbeats 4000000 in
set_option maxRecDepth 100000 in
theorem c_X6_springs {l : Launch} {E : EE} {a1 : Int32}  {σ : Mem} {Q : Int32 → Mem → Prop} (h : wp_X6_springs a1 σ Q) : CtI l yX6_springs wsX6_springs rmX6_springs E [.ref (eA E 64), .int a1] σ Q := by
  refine metI (cc := cX6_springs) (nL := 4) (ret := (some .int)) (lv := [(0, .ref (eA E 64)), (1, .int a1)]) (by decide) rfl (Nat.le_of_ble_eq_true rfl) rfl ?_
  intro p e s m args below meth c C
  unfold wp_X6_springs at h
  replace h := h (fun (x2 : Int32) (x3 : Int32) (σ : Mem) => J E p l e rmX6_springs s m args below meth c (QI E below args s Q) 4 24 [(0, .ref (eA E 64)), (1, .int a1), (2, .int x2), (3, .int x3)] [] σ) (by
    intro x2 x3 σ h
    refine j_iload_n C 3 dX6_springs_24 rfl 3 rfl ?_
    refine j_bipush (v := (20 : Int32)) C dX6_springs_25 (by decide) ?_
    refine j_icmp_gt C 51 dX6_springs_27 (by decide) (fun c1 => ?_) (fun c1 => ?_)
    · replace h := h.1 c1
      refine j_iload_n C 2 dX6_springs_51 rfl 2 rfl ?_
      exact j_iret C dX6_springs_52 h
    · replace h := h.2 c1
      refine j_iload_n C 2 dX6_springs_30 rfl 2 rfl ?_
      refine j_aload_n C 0 dX6_springs_31 rfl 0 rfl ?_
      refine j_iload_n C 1 dX6_springs_32 rfl 1 rfl ?_
      refine j_iconst (v := (1 : Int32)) C dX6_springs_33 (by decide) ?_
      refine j_iload_n C 3 dX6_springs_34 rfl 3 rfl ?_
      refine j_callVI (As := [.int a1, .int (1 : Int32), .int x3]) (rest := [.int x2]) C 64 (c_X6_isSoWith h) (cwV 3 C.2.2.2.2.2.1 gX6_springs_X6_isSoWith rfl rfl rfl hdX6_isSoWith ⟨Nat.le_of_ble_eq_true rfl, Nat.le_of_ble_eq_true rfl⟩) rfl rfl rfl rfl (Nat.le_of_ble_eq_true rfl) dX6_springs_35 (fun r3 σ2 h => ?_)
      refine j_callSI (As := [.int r3]) (rest := [.int x2]) C (c_X6_flag h) (va_cwS 1 C.2.2.2.2.2.1 gX6_springs_X6_flag rfl rfl rfl hdX6_flag.2 ⟨Nat.le_of_ble_eq_true rfl, Nat.le_of_ble_eq_true rfl⟩) rfl rfl (Nat.le_of_ble_eq_true rfl) dX6_springs_38 (fun r5 σ4 h => ?_)
      refine j_iload_n C 3 dX6_springs_41 rfl 3 rfl ?_
      refine j_ishl C dX6_springs_42 ?_
      refine j_ior C dX6_springs_43 ?_
      refine j_topi (fun v6 ev6 => ?_)
      replace h := h v6 ev6
      refine j_istore_n (lv' := [(2, .int v6), (0, .ref (eA E 64)), (1, .int a1), (3, .int x3)]) C 2 dX6_springs_44 rfl (by decide) rfl ?_
      obtain ⟨v7, ev7⟩ : ∃ y : Int32, y = x3 + (1 : Int32) := ⟨_, rfl⟩
      replace h := h v7 ev7
      refine j_iinc (v := v7) (lv' := [(3, .int v7), (2, .int v6), (0, .ref (eA E 64)), (1, .int a1)]) C 3 dX6_springs_45 3 rfl (by rw [ev7]; rfl) (by decide) rfl ?_
      refine j_goto C 24 dX6_springs_48 (by decide) ?_
      exact j_sub (lv' := [(0, .ref (eA E 64)), (1, .int a1), (2, .int v6), (3, .int v7)]) [2, 3, 1, 0] rfl h)
  refine j_aload_n C 0 dX6_springs_0 rfl 0 rfl ?_
  refine j_iload_n C 1 dX6_springs_1 rfl 1 rfl ?_
  refine j_callVI (As := [.int a1]) (rest := []) C 64 (c_X6_isHeir h) (cwV 1 C.2.2.2.2.2.1 gX6_springs_X6_isHeir rfl rfl rfl hdX6_isHeir ⟨Nat.le_of_ble_eq_true rfl, Nat.le_of_ble_eq_true rfl⟩) rfl rfl rfl rfl (Nat.le_of_ble_eq_true rfl) dX6_springs_2 (fun r9 σ8 h => ?_)
  refine j_if_ne C 10 dX6_springs_5 (by decide) (fun c10 => ?_) (fun c10 => ?_)
  · replace h := h.1 c10
    refine j_aload_n C 0 dX6_springs_10 rfl 0 rfl ?_
    refine j_callVI (As := []) (rest := []) C 64 (c_X6_areTwo h) (cwV 0 C.2.2.2.2.2.1 gX6_springs_X6_areTwo rfl rfl rfl hdX6_areTwo ⟨Nat.le_of_ble_eq_true rfl, Nat.le_of_ble_eq_true rfl⟩) rfl rfl rfl rfl (Nat.le_of_ble_eq_true rfl) dX6_springs_11 (fun r12 σ11 h => ?_)
    refine j_if_ne C 20 dX6_springs_14 (by decide) (fun c13 => ?_) (fun c13 => ?_)
    · replace h := h.1 c13
      refine j_iconst (v := (0 : Int32)) C dX6_springs_20 (by decide) ?_
      refine j_istore_n (lv' := [(2, .int (0 : Int32)), (0, .ref (eA E 64)), (1, .int a1)]) C 2 dX6_springs_21 rfl (by decide) rfl ?_
      refine j_iconst (v := (0 : Int32)) C dX6_springs_22 (by decide) ?_
      refine j_istore_n (lv' := [(3, .int (0 : Int32)), (2, .int (0 : Int32)), (0, .ref (eA E 64)), (1, .int a1)]) C 3 dX6_springs_23 rfl (by decide) rfl ?_
      exact j_sub (lv' := [(0, .ref (eA E 64)), (1, .int a1), (2, .int (0 : Int32)), (3, .int (0 : Int32))]) [2, 3, 1, 0] rfl h
    · replace h := h.2 c13
      refine j_bipush (v := (-2 : Int32)) C dX6_springs_17 (by decide) ?_
      exact j_iret C dX6_springs_19 h
  · replace h := h.2 c10
    refine j_iconst (v := (-1 : Int32)) C dX6_springs_8 (by decide) ?_
    exact j_iret C dX6_springs_9 h
def wp_X6_ask (a1 : Int32) (a2 : Int32) (σ : Mem) (Q : Int32 → Mem → Prop) : Prop :=
  ∀ (P36 : Int32 → Int32 → Int32 → Mem → Prop) (P60 : Int32 → Int32 → Int32 → Mem → Prop) (P84 : Int32 → Int32 → Int32 → Int32 → Mem → Prop) (P119 : Int32 → Int32 → Int32 → Mem → Prop) (P128 : Int32 → Int32 → Int32 → Mem → Prop) (P141 : Int32 → Int32 → Int32 → Int32 → Int32 → Mem → Prop) (P184 : Int32 → Int32 → Int32 → Int32 → Int32 → Mem → Prop) (P205 : Int32 → Int32 → Int32 → Int32 → Mem → Prop) (P219 : Int32 → Int32 → Int32 → Mem → Prop),
  (∀ (x3 : Int32) (x4 : Int32) (x5 : Int32) (σ : Mem), (((126 : Int32) ≤ x5 → P60 x3 x4 (0 : Int32) σ) ∧ (¬ (126 : Int32) ≤ x5 → vp_in x5 126 ∧ (∀ σ2 : Mem, σ2 = st1 σ 73 (x5).toNatClampNeg (0 : Int32) → ∀ v3 : Int32, v3 = x5 + (1 : Int32) → P36 x3 x4 v3 σ2))) → P36 x3 x4 x5 σ) →
  (∀ (x3 : Int32) (x4 : Int32) (x5 : Int32) (σ : Mem), (((20 : Int32) < x5 → P128 x3 x4 (1 : Int32) σ) ∧ (¬ (20 : Int32) < x5 → wp_X6_isSoWith a1 (1 : Int32) x5 σ (fun r6 σ5 => (r6 = 0 → P119 x3 x4 x5 σ5) ∧ (¬ r6 = 0 → ∀ v8 : Int32, v8 = x3 + (1 : Int32) → P84 v8 x4 x5 (1 : Int32) σ5)))) → P60 x3 x4 x5 σ) →
  (∀ (x3 : Int32) (x4 : Int32) (x5 : Int32) (x6 : Int32) (σ : Mem), (((20 : Int32) < x6 → P119 x3 x4 x5 σ) ∧ (¬ (20 : Int32) < x6 → vp_in x6 21 ∧ (vp_in (((6 : Int32) * x6) + (σ.1 72 (x6).toNatClampNeg)) 126 ∧ (vp_in (((6 : Int32) * x6) + (σ.1 72 (x6).toNatClampNeg)) 126 ∧ (∀ σ10 : Mem, σ10 = st1 σ 73 ((((6 : Int32) * x6) + (σ.1 72 (x6).toNatClampNeg))).toNatClampNeg ((σ.1 73 ((((6 : Int32) * x6) + (σ.1 72 (x6).toNatClampNeg))).toNatClampNeg) + (1 : Int32)) → ∀ v11 : Int32, v11 = x6 + (1 : Int32) → P84 x3 x4 x5 v11 σ10))))) → P84 x3 x4 x5 x6 σ) →
  (∀ (x3 : Int32) (x4 : Int32) (x5 : Int32) (σ : Mem), (∀ v12 : Int32, v12 = x5 + (1 : Int32) → P60 x3 x4 v12 σ) → P119 x3 x4 x5 σ) →
  (∀ (x3 : Int32) (x4 : Int32) (x5 : Int32) (σ : Mem), (((20 : Int32) < x5 → (¬ x4 = (-4 : Int32) → (¬ a2 = 0 → Q x3 σ) ∧ (a2 = 0 → Q x4 σ)) ∧ (x4 = (-4 : Int32) → Q (-4 : Int32) σ)) ∧ (¬ (20 : Int32) < x5 → P141 x3 x4 x5 (0 : Int32) (0 : Int32) σ)) → P128 x3 x4 x5 σ) →
  (∀ (x3 : Int32) (x4 : Int32) (x5 : Int32) (x6 : Int32) (x7 : Int32) (σ : Mem), (((6 : Int32) ≤ x7 → (x3 ≤ x6 → P205 x3 x5 x6 x4 σ) ∧ (¬ x3 ≤ x6 → P205 x3 x5 x6 x5 σ)) ∧ (¬ (6 : Int32) ≤ x7 → vp_in (((6 : Int32) * x5) + x7) 126 ∧ (((σ.1 73 ((((6 : Int32) * x5) + x7)).toNatClampNeg) ≤ x6 → P184 x3 x4 x5 x7 x6 σ) ∧ (¬ (σ.1 73 ((((6 : Int32) * x5) + x7)).toNatClampNeg) ≤ x6 → vp_in (((6 : Int32) * x5) + x7) 126 ∧ (P184 x3 x4 x5 x7 ((σ.1 73 ((((6 : Int32) * x5) + x7)).toNatClampNeg)) σ))))) → P141 x3 x4 x5 x6 x7 σ) →
  (∀ (x3 : Int32) (x4 : Int32) (x5 : Int32) (x7 : Int32) (s0 : Int32) (σ : Mem), (∀ v19 : Int32, v19 = x7 + (1 : Int32) → P141 x3 x4 x5 s0 v19 σ) → P184 x3 x4 x5 x7 s0 σ) →
  (∀ (x3 : Int32) (x5 : Int32) (x6 : Int32) (s0 : Int32) (σ : Mem), ((x3 ≤ x6 → P219 s0 x5 x3 σ) ∧ (¬ x3 ≤ x6 → P219 s0 x5 x6 σ)) → P205 x3 x5 x6 s0 σ) →
  (∀ (x4 : Int32) (x5 : Int32) (s0 : Int32) (σ : Mem), (∀ v21 : Int32, v21 = x5 + (1 : Int32) → P128 s0 x4 v21 σ) → P219 x4 x5 s0 σ) →
  wp_X6_isHeir a1 σ (fun r23 σ22 => (r23 = 0 → Q (-1 : Int32) σ22) ∧ (¬ r23 = 0 → wp_X6_isPart a2 σ22 (fun r26 σ25 => (¬ r26 = 0 → wp_X6_areTwo σ25 (fun r29 σ28 => (¬ r29 = 0 → P36 (0 : Int32) (-4 : Int32) (0 : Int32) σ28) ∧ (r29 = 0 → Q (-2 : Int32) σ28))) ∧ (r26 = 0 → Q (-1 : Int32) σ25))))
theorem in_X6_ask_X6 : ∀ w ∈ wsX60, w ∈ wsX6_ask := fun _ h => List.mem_cons_of_mem _ (List.mem_append_right _ h)
def rmX6_ask : Room := { frames := 4, cells := 0, slots := 0, locals := 92 }
theorem hdX6_ask : yX6_ask.cls = RX6 ∧ yX6_ask.cls ≠ "java/lang/invoke/MethodHandle" ∧ yX6_ask.cls ≠ "java/lang/invoke/VarHandle" ∧ (parseMethodDescriptor yX6_ask.desc).map (fun d => d.parameters.length) = some 2 := by decide +kernel
set_option maxHeartbeats 4000000 in
set_option maxRecDepth 100000 in
theorem c_X6_ask {l : Launch} {E : EE} {a1 : Int32} {a2 : Int32}  {σ : Mem} {Q : Int32 → Mem → Prop} (h : wp_X6_ask a1 a2 σ Q) : CtI l yX6_ask wsX6_ask rmX6_ask E [.ref (eA E 64), .int a1, .int a2] σ Q := by
  refine metI (cc := cX6_ask) (nL := 8) (ret := (some .int)) (lv := [(0, .ref (eA E 64)), (1, .int a1), (2, .int a2)]) (by decide) rfl (Nat.le_of_ble_eq_true rfl) rfl ?_
  intro p e s m args below meth c C
  unfold wp_X6_ask at h
  replace h := h (fun (x3 : Int32) (x4 : Int32) (x5 : Int32) (σ : Mem) => J E p l e rmX6_ask s m args below meth c (QI E below args s Q) 8 36 [(0, .ref (eA E 64)), (1, .int a1), (2, .int a2), (3, .int x3), (4, .int x4), (5, .int x5)] [] σ) (fun (x3 : Int32) (x4 : Int32) (x5 : Int32) (σ : Mem) => J E p l e rmX6_ask s m args below meth c (QI E below args s Q) 8 60 [(0, .ref (eA E 64)), (1, .int a1), (2, .int a2), (3, .int x3), (4, .int x4), (5, .int x5)] [] σ) (fun (x3 : Int32) (x4 : Int32) (x5 : Int32) (x6 : Int32) (σ : Mem) => J E p l e rmX6_ask s m args below meth c (QI E below args s Q) 8 84 [(0, .ref (eA E 64)), (1, .int a1), (2, .int a2), (3, .int x3), (4, .int x4), (5, .int x5), (6, .int x6)] [] σ) (fun (x3 : Int32) (x4 : Int32) (x5 : Int32) (σ : Mem) => J E p l e rmX6_ask s m args below meth c (QI E below args s Q) 8 119 [(0, .ref (eA E 64)), (1, .int a1), (2, .int a2), (3, .int x3), (4, .int x4), (5, .int x5)] [] σ) (fun (x3 : Int32) (x4 : Int32) (x5 : Int32) (σ : Mem) => J E p l e rmX6_ask s m args below meth c (QI E below args s Q) 8 128 [(0, .ref (eA E 64)), (2, .int a2), (3, .int x3), (4, .int x4), (5, .int x5)] [] σ) (fun (x3 : Int32) (x4 : Int32) (x5 : Int32) (x6 : Int32) (x7 : Int32) (σ : Mem) => J E p l e rmX6_ask s m args below meth c (QI E below args s Q) 8 141 [(0, .ref (eA E 64)), (2, .int a2), (3, .int x3), (4, .int x4), (5, .int x5), (6, .int x6), (7, .int x7)] [] σ) (fun (x3 : Int32) (x4 : Int32) (x5 : Int32) (x7 : Int32) (s0 : Int32) (σ : Mem) => J E p l e rmX6_ask s m args below meth c (QI E below args s Q) 8 184 [(0, .ref (eA E 64)), (2, .int a2), (3, .int x3), (4, .int x4), (5, .int x5), (7, .int x7)] [.int s0] σ) (fun (x3 : Int32) (x5 : Int32) (x6 : Int32) (s0 : Int32) (σ : Mem) => J E p l e rmX6_ask s m args below meth c (QI E below args s Q) 8 205 [(0, .ref (eA E 64)), (2, .int a2), (3, .int x3), (5, .int x5), (6, .int x6)] [.int s0] σ) (fun (x4 : Int32) (x5 : Int32) (s0 : Int32) (σ : Mem) => J E p l e rmX6_ask s m args below meth c (QI E below args s Q) 8 219 [(0, .ref (eA E 64)), (2, .int a2), (4, .int x4), (5, .int x5)] [.int s0] σ) (by
    intro x3 x4 x5 σ h
    refine j_iload C 5 dX6_ask_36 5 rfl ?_
    refine j_bipush (v := (126 : Int32)) C dX6_ask_38 (by decide) ?_
    refine j_icmp_ge C 57 dX6_ask_40 (by decide) (fun c1 => ?_) (fun c1 => ?_)
    · replace h := h.1 c1
      refine j_iconst (v := (0 : Int32)) C dX6_ask_57 (by decide) ?_
      refine j_istore (lv' := [(5, .int (0 : Int32)), (0, .ref (eA E 64)), (1, .int a1), (2, .int a2), (3, .int x3), (4, .int x4)]) C 5 dX6_ask_58 (by decide) rfl ?_
      exact j_sub (lv' := [(0, .ref (eA E 64)), (1, .int a1), (2, .int a2), (3, .int x3), (4, .int x4), (5, .int (0 : Int32))]) [1, 2, 3, 4, 5, 0] rfl h
    · replace h := h.2 c1
      refine j_aload_n C 0 dX6_ask_43 rfl 0 rfl ?_
      refine j_getR C 73 64 25 rfl rfl rfl in_X6_ask_X6 (by decide) (by decide +kernel) dX6_ask_44 ?_
      refine j_iload C 5 dX6_ask_47 5 rfl ?_
      refine j_iconst (v := (0 : Int32)) C dX6_ask_49 (by decide) ?_
      refine j_iast C 73 rfl dX6_ask_50 h.1 ?_
      replace h := h.2
      refine j_mem (fun σ2 eσ2 => ?_)
      replace h := h σ2 eσ2
      obtain ⟨v3, ev3⟩ : ∃ y : Int32, y = x5 + (1 : Int32) := ⟨_, rfl⟩
      replace h := h v3 ev3
      refine j_iinc (v := v3) (lv' := [(5, .int v3), (0, .ref (eA E 64)), (1, .int a1), (2, .int a2), (3, .int x3), (4, .int x4)]) C 5 dX6_ask_51 5 rfl (by rw [ev3]; rfl) (by decide) rfl ?_
      refine j_goto C 36 dX6_ask_54 (by decide) ?_
      exact j_sub (lv' := [(0, .ref (eA E 64)), (1, .int a1), (2, .int a2), (3, .int x3), (4, .int x4), (5, .int v3)]) [1, 2, 3, 4, 5, 0] rfl h) (by
    intro x3 x4 x5 σ h
    refine j_iload C 5 dX6_ask_60 5 rfl ?_
    refine j_bipush (v := (20 : Int32)) C dX6_ask_62 (by decide) ?_
    refine j_icmp_gt C 125 dX6_ask_64 (by decide) (fun c4 => ?_) (fun c4 => ?_)
    · replace h := h.1 c4
      refine j_iconst (v := (1 : Int32)) C dX6_ask_125 (by decide) ?_
      refine j_istore (lv' := [(5, .int (1 : Int32)), (0, .ref (eA E 64)), (1, .int a1), (2, .int a2), (3, .int x3), (4, .int x4)]) C 5 dX6_ask_126 (by decide) rfl ?_
      exact j_sub (lv' := [(0, .ref (eA E 64)), (2, .int a2), (3, .int x3), (4, .int x4), (5, .int (1 : Int32))]) [1, 3, 4, 5, 0] rfl h
    · replace h := h.2 c4
      refine j_aload_n C 0 dX6_ask_67 rfl 0 rfl ?_
      refine j_iload_n C 1 dX6_ask_68 rfl 1 rfl ?_
      refine j_iconst (v := (1 : Int32)) C dX6_ask_69 (by decide) ?_
      refine j_iload C 5 dX6_ask_70 5 rfl ?_
      refine j_callVI (As := [.int a1, .int (1 : Int32), .int x5]) (rest := []) C 64 (c_X6_isSoWith h) (cwV 3 C.2.2.2.2.2.1 gX6_ask_X6_isSoWith rfl rfl rfl hdX6_isSoWith ⟨Nat.le_of_ble_eq_true rfl, Nat.le_of_ble_eq_true rfl⟩) rfl rfl rfl rfl (Nat.le_of_ble_eq_true rfl) dX6_ask_72 (fun r6 σ5 h => ?_)
      refine j_if_eq C 119 dX6_ask_75 (by decide) (fun c7 => ?_) (fun c7 => ?_)
      · replace h := h.1 c7
        exact j_sub (lv' := [(0, .ref (eA E 64)), (1, .int a1), (2, .int a2), (3, .int x3), (4, .int x4), (5, .int x5)]) [0, 1, 2, 3, 4, 5] rfl h
      · replace h := h.2 c7
        obtain ⟨v8, ev8⟩ : ∃ y : Int32, y = x3 + (1 : Int32) := ⟨_, rfl⟩
        replace h := h v8 ev8
        refine j_iinc (v := v8) (lv' := [(3, .int v8), (0, .ref (eA E 64)), (1, .int a1), (2, .int a2), (4, .int x4), (5, .int x5)]) C 3 dX6_ask_78 3 rfl (by rw [ev8]; rfl) (by decide) rfl ?_
        refine j_iconst (v := (1 : Int32)) C dX6_ask_81 (by decide) ?_
        refine j_istore (lv' := [(6, .int (1 : Int32)), (3, .int v8), (0, .ref (eA E 64)), (1, .int a1), (2, .int a2), (4, .int x4), (5, .int x5)]) C 6 dX6_ask_82 (by decide) rfl ?_
        exact j_sub (lv' := [(0, .ref (eA E 64)), (1, .int a1), (2, .int a2), (3, .int v8), (4, .int x4), (5, .int x5), (6, .int (1 : Int32))]) [2, 3, 4, 1, 5, 6, 0] rfl h) (by
    intro x3 x4 x5 x6 σ h
    refine j_iload C 6 dX6_ask_84 6 rfl ?_
    refine j_bipush (v := (20 : Int32)) C dX6_ask_86 (by decide) ?_
    refine j_icmp_gt C 119 dX6_ask_88 (by decide) (fun c9 => ?_) (fun c9 => ?_)
    · replace h := h.1 c9
      exact j_sub (lv' := [(0, .ref (eA E 64)), (1, .int a1), (2, .int a2), (3, .int x3), (4, .int x4), (5, .int x5)]) [0, 1, 2, 3, 4, 5] rfl h
    · replace h := h.2 c9
      refine j_aload_n C 0 dX6_ask_91 rfl 0 rfl ?_
      refine j_getR C 73 64 25 rfl rfl rfl in_X6_ask_X6 (by decide) (by decide +kernel) dX6_ask_92 ?_
      refine j_bipush (v := (6 : Int32)) C dX6_ask_95 (by decide) ?_
      refine j_iload C 6 dX6_ask_97 6 rfl ?_
      refine j_imul C dX6_ask_99 ?_
      refine j_aload_n C 0 dX6_ask_100 rfl 0 rfl ?_
      refine j_getR C 72 64 24 rfl rfl rfl in_X6_ask_X6 (by decide) (by decide +kernel) dX6_ask_101 ?_
      refine j_iload C 6 dX6_ask_104 6 rfl ?_
      refine j_iald C 72 rfl dX6_ask_106 h.1 ?_
      replace h := h.2
      refine j_iadd C dX6_ask_107 ?_
      refine j_dup2 C dX6_ask_108 rfl rfl ?_
      refine j_iald C 73 rfl dX6_ask_109 h.1 ?_
      replace h := h.2
      refine j_iconst (v := (1 : Int32)) C dX6_ask_110 (by decide) ?_
      refine j_iadd C dX6_ask_111 ?_
      refine j_iast C 73 rfl dX6_ask_112 h.1 ?_
      replace h := h.2
      refine j_mem (fun σ10 eσ10 => ?_)
      replace h := h σ10 eσ10
      obtain ⟨v11, ev11⟩ : ∃ y : Int32, y = x6 + (1 : Int32) := ⟨_, rfl⟩
      replace h := h v11 ev11
      refine j_iinc (v := v11) (lv' := [(6, .int v11), (0, .ref (eA E 64)), (1, .int a1), (2, .int a2), (3, .int x3), (4, .int x4), (5, .int x5)]) C 6 dX6_ask_113 6 rfl (by rw [ev11]; rfl) (by decide) rfl ?_
      refine j_goto C 84 dX6_ask_116 (by decide) ?_
      exact j_sub (lv' := [(0, .ref (eA E 64)), (1, .int a1), (2, .int a2), (3, .int x3), (4, .int x4), (5, .int x5), (6, .int v11)]) [1, 2, 3, 4, 5, 6, 0] rfl h) (by
    intro x3 x4 x5 σ h
    obtain ⟨v12, ev12⟩ : ∃ y : Int32, y = x5 + (1 : Int32) := ⟨_, rfl⟩
    replace h := h v12 ev12
    refine j_iinc (v := v12) (lv' := [(5, .int v12), (0, .ref (eA E 64)), (1, .int a1), (2, .int a2), (3, .int x3), (4, .int x4)]) C 5 dX6_ask_119 5 rfl (by rw [ev12]; rfl) (by decide) rfl ?_
    refine j_goto C 60 dX6_ask_122 (by decide) ?_
    exact j_sub (lv' := [(0, .ref (eA E 64)), (1, .int a1), (2, .int a2), (3, .int x3), (4, .int x4), (5, .int v12)]) [1, 2, 3, 4, 5, 0] rfl h) (by
    intro x3 x4 x5 σ h
    refine j_iload C 5 dX6_ask_128 4 rfl ?_
    refine j_bipush (v := (20 : Int32)) C dX6_ask_130 (by decide) ?_
    refine j_icmp_gt C 226 dX6_ask_132 (by decide) (fun c13 => ?_) (fun c13 => ?_)
    · replace h := h.1 c13
      refine j_iload C 4 dX6_ask_226 3 rfl ?_
      refine j_bipush (v := (-4 : Int32)) C dX6_ask_228 (by decide) ?_
      refine j_icmp_ne C 238 dX6_ask_230 (by decide) (fun c14 => ?_) (fun c14 => ?_)
      · replace h := h.1 c14
        refine j_iload_n C 2 dX6_ask_238 rfl 1 rfl ?_
        refine j_if_ne C 247 dX6_ask_239 (by decide) (fun c15 => ?_) (fun c15 => ?_)
        · replace h := h.1 c15
          refine j_iload_n C 3 dX6_ask_247 rfl 2 rfl ?_
          exact j_iret C dX6_ask_248 h
        · replace h := h.2 c15
          refine j_iload C 4 dX6_ask_242 3 rfl ?_
          refine j_goto C 248 dX6_ask_244 (by decide) ?_
          exact j_iret C dX6_ask_248 h
      · replace h := h.2 c14
        refine j_bipush (v := (-4 : Int32)) C dX6_ask_233 (by decide) ?_
        refine j_goto C 248 dX6_ask_235 (by decide) ?_
        exact j_iret C dX6_ask_248 h
    · replace h := h.2 c13
      refine j_iconst (v := (0 : Int32)) C dX6_ask_135 (by decide) ?_
      refine j_istore (lv' := [(6, .int (0 : Int32)), (0, .ref (eA E 64)), (2, .int a2), (3, .int x3), (4, .int x4), (5, .int x5)]) C 6 dX6_ask_136 (by decide) rfl ?_
      refine j_iconst (v := (0 : Int32)) C dX6_ask_138 (by decide) ?_
      refine j_istore (lv' := [(7, .int (0 : Int32)), (6, .int (0 : Int32)), (0, .ref (eA E 64)), (2, .int a2), (3, .int x3), (4, .int x4), (5, .int x5)]) C 7 dX6_ask_139 (by decide) rfl ?_
      exact j_sub (lv' := [(0, .ref (eA E 64)), (2, .int a2), (3, .int x3), (4, .int x4), (5, .int x5), (6, .int (0 : Int32)), (7, .int (0 : Int32))]) [2, 3, 4, 5, 6, 1, 0] rfl h) (by
    intro x3 x4 x5 x6 x7 σ h
    refine j_iload C 7 dX6_ask_141 6 rfl ?_
    refine j_bipush (v := (6 : Int32)) C dX6_ask_143 (by decide) ?_
    refine j_icmp_ge C 192 dX6_ask_145 (by decide) (fun c16 => ?_) (fun c16 => ?_)
    · replace h := h.1 c16
      refine j_iload C 6 dX6_ask_192 5 rfl ?_
      refine j_iload_n C 3 dX6_ask_194 rfl 2 rfl ?_
      refine j_icmp_ge C 203 dX6_ask_195 (by decide) (fun c17 => ?_) (fun c17 => ?_)
      · replace h := h.1 c17
        refine j_iload C 4 dX6_ask_203 3 rfl ?_
        exact j_sub (lv' := [(0, .ref (eA E 64)), (2, .int a2), (3, .int x3), (5, .int x5), (6, .int x6)]) [0, 1, 2, 4, 5] rfl h
      · replace h := h.2 c17
        refine j_iload C 5 dX6_ask_198 4 rfl ?_
        refine j_goto C 205 dX6_ask_200 (by decide) ?_
        exact j_sub (lv' := [(0, .ref (eA E 64)), (2, .int a2), (3, .int x3), (5, .int x5), (6, .int x6)]) [0, 1, 2, 4, 5] rfl h
    · replace h := h.2 c16
      refine j_aload_n C 0 dX6_ask_148 rfl 0 rfl ?_
      refine j_getR C 73 64 25 rfl rfl rfl in_X6_ask_X6 (by decide) (by decide +kernel) dX6_ask_149 ?_
      refine j_bipush (v := (6 : Int32)) C dX6_ask_152 (by decide) ?_
      refine j_iload C 5 dX6_ask_154 4 rfl ?_
      refine j_imul C dX6_ask_156 ?_
      refine j_iload C 7 dX6_ask_157 6 rfl ?_
      refine j_iadd C dX6_ask_159 ?_
      refine j_iald C 73 rfl dX6_ask_160 h.1 ?_
      replace h := h.2
      refine j_iload C 6 dX6_ask_161 5 rfl ?_
      refine j_icmp_le C 182 dX6_ask_163 (by decide) (fun c18 => ?_) (fun c18 => ?_)
      · replace h := h.1 c18
        refine j_iload C 6 dX6_ask_182 5 rfl ?_
        exact j_sub (lv' := [(0, .ref (eA E 64)), (2, .int a2), (3, .int x3), (4, .int x4), (5, .int x5), (7, .int x7)]) [0, 1, 2, 3, 4, 6] rfl h
      · replace h := h.2 c18
        refine j_aload_n C 0 dX6_ask_166 rfl 0 rfl ?_
        refine j_getR C 73 64 25 rfl rfl rfl in_X6_ask_X6 (by decide) (by decide +kernel) dX6_ask_167 ?_
        refine j_bipush (v := (6 : Int32)) C dX6_ask_170 (by decide) ?_
        refine j_iload C 5 dX6_ask_172 4 rfl ?_
        refine j_imul C dX6_ask_174 ?_
        refine j_iload C 7 dX6_ask_175 6 rfl ?_
        refine j_iadd C dX6_ask_177 ?_
        refine j_iald C 73 rfl dX6_ask_178 h.1 ?_
        replace h := h.2
        refine j_goto C 184 dX6_ask_179 (by decide) ?_
        exact j_sub (lv' := [(0, .ref (eA E 64)), (2, .int a2), (3, .int x3), (4, .int x4), (5, .int x5), (7, .int x7)]) [0, 1, 2, 3, 4, 6] rfl h) (by
    intro x3 x4 x5 x7 s0 σ h
    refine j_istore (lv' := [(6, .int s0), (0, .ref (eA E 64)), (2, .int a2), (3, .int x3), (4, .int x4), (5, .int x5), (7, .int x7)]) C 6 dX6_ask_184 (by decide) rfl ?_
    obtain ⟨v19, ev19⟩ : ∃ y : Int32, y = x7 + (1 : Int32) := ⟨_, rfl⟩
    replace h := h v19 ev19
    refine j_iinc (v := v19) (lv' := [(7, .int v19), (6, .int s0), (0, .ref (eA E 64)), (2, .int a2), (3, .int x3), (4, .int x4), (5, .int x5)]) C 7 dX6_ask_186 6 rfl (by rw [ev19]; rfl) (by decide) rfl ?_
    refine j_goto C 141 dX6_ask_189 (by decide) ?_
    exact j_sub (lv' := [(0, .ref (eA E 64)), (2, .int a2), (3, .int x3), (4, .int x4), (5, .int x5), (6, .int s0), (7, .int v19)]) [2, 3, 4, 5, 6, 1, 0] rfl h) (by
    intro x3 x5 x6 s0 σ h
    refine j_istore (lv' := [(4, .int s0), (0, .ref (eA E 64)), (2, .int a2), (3, .int x3), (5, .int x5), (6, .int x6)]) C 4 dX6_ask_205 (by decide) rfl ?_
    refine j_iload C 6 dX6_ask_207 5 rfl ?_
    refine j_iload_n C 3 dX6_ask_209 rfl 3 rfl ?_
    refine j_icmp_ge C 218 dX6_ask_210 (by decide) (fun c20 => ?_) (fun c20 => ?_)
    · replace h := h.1 c20
      refine j_iload_n C 3 dX6_ask_218 rfl 3 rfl ?_
      exact j_sub (lv' := [(0, .ref (eA E 64)), (2, .int a2), (4, .int s0), (5, .int x5)]) [1, 2, 0, 4] rfl h
    · replace h := h.2 c20
      refine j_iload C 6 dX6_ask_213 5 rfl ?_
      refine j_goto C 219 dX6_ask_215 (by decide) ?_
      exact j_sub (lv' := [(0, .ref (eA E 64)), (2, .int a2), (4, .int s0), (5, .int x5)]) [1, 2, 0, 4] rfl h) (by
    intro x4 x5 s0 σ h
    refine j_istore_n (lv' := [(3, .int s0), (0, .ref (eA E 64)), (2, .int a2), (4, .int x4), (5, .int x5)]) C 3 dX6_ask_219 rfl (by decide) rfl ?_
    obtain ⟨v21, ev21⟩ : ∃ y : Int32, y = x5 + (1 : Int32) := ⟨_, rfl⟩
    replace h := h v21 ev21
    refine j_iinc (v := v21) (lv' := [(5, .int v21), (3, .int s0), (0, .ref (eA E 64)), (2, .int a2), (4, .int x4)]) C 5 dX6_ask_220 4 rfl (by rw [ev21]; rfl) (by decide) rfl ?_
    refine j_goto C 128 dX6_ask_223 (by decide) ?_
    exact j_sub (lv' := [(0, .ref (eA E 64)), (2, .int a2), (3, .int s0), (4, .int x4), (5, .int v21)]) [2, 3, 1, 4, 0] rfl h)
  refine j_aload_n C 0 dX6_ask_0 rfl 0 rfl ?_
  refine j_iload_n C 1 dX6_ask_1 rfl 1 rfl ?_
  refine j_callVI (As := [.int a1]) (rest := []) C 64 (c_X6_isHeir h) (cwV 1 C.2.2.2.2.2.1 gX6_ask_X6_isHeir rfl rfl rfl hdX6_isHeir ⟨Nat.le_of_ble_eq_true rfl, Nat.le_of_ble_eq_true rfl⟩) rfl rfl rfl rfl (Nat.le_of_ble_eq_true rfl) dX6_ask_2 (fun r23 σ22 h => ?_)
  refine j_if_eq C 15 dX6_ask_5 (by decide) (fun c24 => ?_) (fun c24 => ?_)
  · replace h := h.1 c24
    refine j_iconst (v := (-1 : Int32)) C dX6_ask_15 (by decide) ?_
    exact j_iret C dX6_ask_16 h
  · replace h := h.2 c24
    refine j_iload_n C 2 dX6_ask_8 rfl 2 rfl ?_
    refine j_callSI (As := [.int a2]) (rest := []) C (c_X6_isPart h) (va_cwS 1 C.2.2.2.2.2.1 gX6_ask_X6_isPart rfl rfl rfl hdX6_isPart.2 ⟨Nat.le_of_ble_eq_true rfl, Nat.le_of_ble_eq_true rfl⟩) rfl rfl (Nat.le_of_ble_eq_true rfl) dX6_ask_9 (fun r26 σ25 h => ?_)
    refine j_if_ne C 17 dX6_ask_12 (by decide) (fun c27 => ?_) (fun c27 => ?_)
    · replace h := h.1 c27
      refine j_aload_n C 0 dX6_ask_17 rfl 0 rfl ?_
      refine j_callVI (As := []) (rest := []) C 64 (c_X6_areTwo h) (cwV 0 C.2.2.2.2.2.1 gX6_ask_X6_areTwo rfl rfl rfl hdX6_areTwo ⟨Nat.le_of_ble_eq_true rfl, Nat.le_of_ble_eq_true rfl⟩) rfl rfl rfl rfl (Nat.le_of_ble_eq_true rfl) dX6_ask_18 (fun r29 σ28 h => ?_)
      refine j_if_ne C 27 dX6_ask_21 (by decide) (fun c30 => ?_) (fun c30 => ?_)
      · replace h := h.1 c30
        refine j_iconst (v := (0 : Int32)) C dX6_ask_27 (by decide) ?_
        refine j_istore_n (lv' := [(3, .int (0 : Int32)), (0, .ref (eA E 64)), (1, .int a1), (2, .int a2)]) C 3 dX6_ask_28 rfl (by decide) rfl ?_
        refine j_bipush (v := (-4 : Int32)) C dX6_ask_29 (by decide) ?_
        refine j_istore (lv' := [(4, .int (-4 : Int32)), (3, .int (0 : Int32)), (0, .ref (eA E 64)), (1, .int a1), (2, .int a2)]) C 4 dX6_ask_31 (by decide) rfl ?_
        refine j_iconst (v := (0 : Int32)) C dX6_ask_33 (by decide) ?_
        refine j_istore (lv' := [(5, .int (0 : Int32)), (4, .int (-4 : Int32)), (3, .int (0 : Int32)), (0, .ref (eA E 64)), (1, .int a1), (2, .int a2)]) C 5 dX6_ask_34 (by decide) rfl ?_
        exact j_sub (lv' := [(0, .ref (eA E 64)), (1, .int a1), (2, .int a2), (3, .int (0 : Int32)), (4, .int (-4 : Int32)), (5, .int (0 : Int32))]) [3, 4, 5, 2, 1, 0] rfl h
      · replace h := h.2 c30
        refine j_bipush (v := (-2 : Int32)) C dX6_ask_24 (by decide) ?_
        exact j_iret C dX6_ask_26 h
    · replace h := h.2 c27
      refine j_iconst (v := (-1 : Int32)) C dX6_ask_15 (by decide) ?_
      exact j_iret C dX6_ask_16 h
def wp_X6_drift (a1 : Int32) (a2 : Int32) (a3 : Int32) (σ : Mem) (Q : Int32 → Mem → Prop) : Prop :=
  ∀ (P41 : Int32 → Int32 → Mem → Prop),
  (∀ (x4 : Int32) (x5 : Int32) (σ : Mem), ((a2 ≤ x5 → (¬ a3 = 0 → Q ((σ.1 66 ((35 : Int32)).toNatClampNeg) - (σ.1 65 ((35 : Int32)).toNatClampNeg)) σ) ∧ (a3 = 0 → Q (σ.1 66 ((32 : Int32)).toNatClampNeg) σ)) ∧ (¬ a2 ≤ x5 → ∀ v3 : Int32, v3 = ((x4 * (1103515245 : Int32)) + (12345 : Int32)) → ∀ σ4 : Mem, σ4 = st1 σ 66 ((31 : Int32)).toNatClampNeg (((v3 >>> ((16 : Int32) &&& 31)) &&& (32767 : Int32)) - ((v3 >>> ((16 : Int32) &&& 31)) &&& (32767 : Int32)) / (10 : Int32) * (10 : Int32)) → wp_X6_reignGoes (0 : Int32) σ4 (fun σ5 => ∀ v6 : Int32, v6 = x5 + (1 : Int32) → P41 v3 v6 σ5))) → P41 x4 x5 σ) →
  wp_X6_in ((a2).toInt64) (1 : Int64) (60 : Int64) σ (fun r8 σ7 => (r8 = 0 → Q (-1 : Int32) σ7) ∧ (¬ r8 = 0 → wp_X6_isPart a3 σ7 (fun r11 σ10 => (¬ r11 = 0 → wp_X6_areTwo σ10 (fun r14 σ13 => (¬ r14 = 0 → wp_X6_starts σ13 (fun σ16 => P41 a1 (0 : Int32) σ16)) ∧ (r14 = 0 → Q (-2 : Int32) σ13))) ∧ (r11 = 0 → Q (-1 : Int32) σ10))))
theorem in_X6_drift_X6 : ∀ w ∈ wsX60, w ∈ wsX6_drift := fun _ h => List.mem_cons_of_mem _ (List.mem_append_right _ h)
def rmX6_drift : Room := { frames := 3, cells := 0, slots := 0, locals := 67 }
theorem hdX6_drift : yX6_drift.cls = RX6 ∧ yX6_drift.cls ≠ "java/lang/invoke/MethodHandle" ∧ yX6_drift.cls ≠ "java/lang/invoke/VarHandle" ∧ (parseMethodDescriptor yX6_drift.desc).map (fun d => d.parameters.length) = some 3 := by decide +kernel
set_option maxHeartbeats 4000000 in
set_option maxRecDepth 100000 in
theorem c_X6_drift {l : Launch} {E : EE} {a1 : Int32} {a2 : Int32} {a3 : Int32}  {σ : Mem} {Q : Int32 → Mem → Prop} (h : wp_X6_drift a1 a2 a3 σ Q) : CtI l yX6_drift wsX6_drift rmX6_drift E [.ref (eA E 64), .int a1, .int a2, .int a3] σ Q := by
  refine metI (cc := cX6_drift) (nL := 6) (ret := (some .int)) (lv := [(0, .ref (eA E 64)), (1, .int a1), (2, .int a2), (3, .int a3)]) (by decide) rfl (Nat.le_of_ble_eq_true rfl) rfl ?_
  intro p e s m args below meth c C
  unfold wp_X6_drift at h
  replace h := h (fun (x4 : Int32) (x5 : Int32) (σ : Mem) => J E p l e rmX6_drift s m args below meth c (QI E below args s Q) 6 41 [(0, .ref (eA E 64)), (2, .int a2), (3, .int a3), (4, .int x4), (5, .int x5)] [] σ) (by
    intro x4 x5 σ h
    refine j_iload C 5 dX6_drift_41 4 rfl ?_
    refine j_iload_n C 2 dX6_drift_43 rfl 1 rfl ?_
    refine j_icmp_ge C 89 dX6_drift_44 (by decide) (fun c1 => ?_) (fun c1 => ?_)
    · replace h := h.1 c1
      refine j_iload_n C 3 dX6_drift_89 rfl 2 rfl ?_
      refine j_if_ne C 103 dX6_drift_90 (by decide) (fun c2 => ?_) (fun c2 => ?_)
      · replace h := h.1 c2
        refine j_aload_n C 0 dX6_drift_103 rfl 0 rfl ?_
        refine j_getR C 66 64 1 rfl rfl rfl in_X6_drift_X6 (by decide) (by decide +kernel) dX6_drift_104 ?_
        refine j_bipush (v := (35 : Int32)) C dX6_drift_107 (by decide) ?_
        refine j_iald C 66 rfl dX6_drift_109 (in_lit rfl) ?_
        refine j_aload_n C 0 dX6_drift_110 rfl 0 rfl ?_
        refine j_getR C 65 64 0 rfl rfl rfl in_X6_drift_X6 (by decide) (by decide +kernel) dX6_drift_111 ?_
        refine j_bipush (v := (35 : Int32)) C dX6_drift_114 (by decide) ?_
        refine j_iald C 65 rfl dX6_drift_116 (in_lit rfl) ?_
        refine j_isub C dX6_drift_117 ?_
        exact j_iret C dX6_drift_118 h
      · replace h := h.2 c2
        refine j_aload_n C 0 dX6_drift_93 rfl 0 rfl ?_
        refine j_getR C 66 64 1 rfl rfl rfl in_X6_drift_X6 (by decide) (by decide +kernel) dX6_drift_94 ?_
        refine j_bipush (v := (32 : Int32)) C dX6_drift_97 (by decide) ?_
        refine j_iald C 66 rfl dX6_drift_99 (in_lit rfl) ?_
        refine j_goto C 118 dX6_drift_100 (by decide) ?_
        exact j_iret C dX6_drift_118 h
    · replace h := h.2 c1
      refine j_iload C 4 dX6_drift_47 3 rfl ?_
      refine j_ldcw C (1103515245 : Int32) dX6_drift_49 (by decide +kernel) ?_
      refine j_imul C dX6_drift_52 ?_
      refine j_sipush (v := (12345 : Int32)) C dX6_drift_53 (by decide) ?_
      refine j_iadd C dX6_drift_56 ?_
      refine j_topi (fun v3 ev3 => ?_)
      replace h := h v3 ev3
      refine j_istore (lv' := [(4, .int v3), (0, .ref (eA E 64)), (2, .int a2), (3, .int a3), (5, .int x5)]) C 4 dX6_drift_57 (by decide) rfl ?_
      refine j_aload_n C 0 dX6_drift_59 rfl 1 rfl ?_
      refine j_getR C 66 64 1 rfl rfl rfl in_X6_drift_X6 (by decide) (by decide +kernel) dX6_drift_60 ?_
      refine j_bipush (v := (31 : Int32)) C dX6_drift_63 (by decide) ?_
      refine j_iload C 4 dX6_drift_65 0 rfl ?_
      refine j_bipush (v := (16 : Int32)) C dX6_drift_67 (by decide) ?_
      refine j_ishr C dX6_drift_69 ?_
      refine j_sipush (v := (32767 : Int32)) C dX6_drift_70 (by decide) ?_
      refine j_iand C dX6_drift_73 ?_
      refine j_bipush (v := (10 : Int32)) C dX6_drift_74 (by decide) ?_
      refine j_irem C dX6_drift_76 (by decide) ?_
      refine j_iast C 66 rfl dX6_drift_77 (in_lit rfl) ?_
      refine j_mem (fun σ4 eσ4 => ?_)
      replace h := h σ4 eσ4
      refine j_aload_n C 0 dX6_drift_78 rfl 1 rfl ?_
      refine j_iconst (v := (0 : Int32)) C dX6_drift_79 (by decide) ?_
      refine j_callVV (As := [.int (0 : Int32)]) (rest := []) C 64 (c_X6_reignGoes h) (cwV 1 C.2.2.2.2.2.1 gX6_drift_X6_reignGoes rfl rfl rfl hdX6_reignGoes ⟨Nat.le_of_ble_eq_true rfl, Nat.le_of_ble_eq_true rfl⟩) rfl rfl rfl rfl (Nat.le_of_ble_eq_true rfl) dX6_drift_80 (fun σ5 h => ?_)
      obtain ⟨v6, ev6⟩ : ∃ y : Int32, y = x5 + (1 : Int32) := ⟨_, rfl⟩
      replace h := h v6 ev6
      refine j_iinc (v := v6) (lv' := [(5, .int v6), (4, .int v3), (0, .ref (eA E 64)), (2, .int a2), (3, .int a3)]) C 5 dX6_drift_83 4 rfl (by rw [ev6]; rfl) (by decide) rfl ?_
      refine j_goto C 41 dX6_drift_86 (by decide) ?_
      exact j_sub (lv' := [(0, .ref (eA E 64)), (2, .int a2), (3, .int a3), (4, .int v3), (5, .int v6)]) [2, 3, 4, 1, 0] rfl h)
  refine j_iload_n C 2 dX6_drift_0 rfl 2 rfl ?_
  refine j_i2l C dX6_drift_1 rfl ?_
  refine j_lconst (v := (1 : Int64)) C dX6_drift_2 (by decide) ?_
  refine j_ldc2 C (60 : Int64) dX6_drift_3 (by decide +kernel) ?_
  refine j_callSI (As := [.long (a2).toInt64, .long (1 : Int64), .long (60 : Int64)]) (rest := []) C (c_X6_in h) (va_cwS 3 C.2.2.2.2.2.1 gX6_drift_X6_in rfl rfl rfl hdX6_in.2 ⟨Nat.le_of_ble_eq_true rfl, Nat.le_of_ble_eq_true rfl⟩) rfl rfl (Nat.le_of_ble_eq_true rfl) dX6_drift_6 (fun r8 σ7 h => ?_)
  refine j_if_eq C 19 dX6_drift_9 (by decide) (fun c9 => ?_) (fun c9 => ?_)
  · replace h := h.1 c9
    refine j_iconst (v := (-1 : Int32)) C dX6_drift_19 (by decide) ?_
    exact j_iret C dX6_drift_20 h
  · replace h := h.2 c9
    refine j_iload_n C 3 dX6_drift_12 rfl 3 rfl ?_
    refine j_callSI (As := [.int a3]) (rest := []) C (c_X6_isPart h) (va_cwS 1 C.2.2.2.2.2.1 gX6_drift_X6_isPart rfl rfl rfl hdX6_isPart.2 ⟨Nat.le_of_ble_eq_true rfl, Nat.le_of_ble_eq_true rfl⟩) rfl rfl (Nat.le_of_ble_eq_true rfl) dX6_drift_13 (fun r11 σ10 h => ?_)
    refine j_if_ne C 21 dX6_drift_16 (by decide) (fun c12 => ?_) (fun c12 => ?_)
    · replace h := h.1 c12
      refine j_aload_n C 0 dX6_drift_21 rfl 0 rfl ?_
      refine j_callVI (As := []) (rest := []) C 64 (c_X6_areTwo h) (cwV 0 C.2.2.2.2.2.1 gX6_drift_X6_areTwo rfl rfl rfl hdX6_areTwo ⟨Nat.le_of_ble_eq_true rfl, Nat.le_of_ble_eq_true rfl⟩) rfl rfl rfl rfl (Nat.le_of_ble_eq_true rfl) dX6_drift_22 (fun r14 σ13 h => ?_)
      refine j_if_ne C 31 dX6_drift_25 (by decide) (fun c15 => ?_) (fun c15 => ?_)
      · replace h := h.1 c15
        refine j_iload_n C 1 dX6_drift_31 rfl 1 rfl ?_
        refine j_istore (lv' := [(4, .int a1), (0, .ref (eA E 64)), (1, .int a1), (2, .int a2), (3, .int a3)]) C 4 dX6_drift_32 (by decide) rfl ?_
        refine j_aload_n C 0 dX6_drift_34 rfl 1 rfl ?_
        refine j_callVV (As := []) (rest := []) C 64 (c_X6_starts h) (cwV 0 C.2.2.2.2.2.1 gX6_drift_X6_starts rfl rfl rfl hdX6_starts ⟨Nat.le_of_ble_eq_true rfl, Nat.le_of_ble_eq_true rfl⟩) rfl rfl rfl rfl (Nat.le_of_ble_eq_true rfl) dX6_drift_35 (fun σ16 h => ?_)
        refine j_iconst (v := (0 : Int32)) C dX6_drift_38 (by decide) ?_
        refine j_istore (lv' := [(5, .int (0 : Int32)), (4, .int a1), (0, .ref (eA E 64)), (1, .int a1), (2, .int a2), (3, .int a3)]) C 5 dX6_drift_39 (by decide) rfl ?_
        exact j_sub (lv' := [(0, .ref (eA E 64)), (2, .int a2), (3, .int a3), (4, .int a1), (5, .int (0 : Int32))]) [2, 4, 5, 1, 0] rfl h
      · replace h := h.2 c15
        refine j_bipush (v := (-2 : Int32)) C dX6_drift_28 (by decide) ?_
        exact j_iret C dX6_drift_30 h
    · replace h := h.2 c12
      refine j_iconst (v := (-1 : Int32)) C dX6_drift_19 (by decide) ?_
      exact j_iret C dX6_drift_20 h
def wp_X6_copies (a1 : Int32) (a2 : Int32) (σ : Mem) (Q : Mem → Prop) : Prop :=
  ∀ (P2 : Int32 → Mem → Prop),
  (∀ (x3 : Int32) (σ : Mem), (((49 : Int32) ≤ x3 → Q σ) ∧ (¬ (49 : Int32) ≤ x3 → vp_in (a2 + x3) 147 ∧ (vp_in (a1 + x3) 147 ∧ (∀ σ2 : Mem, σ2 = st1 σ 65 ((a1 + x3)).toNatClampNeg (σ.1 65 ((a2 + x3)).toNatClampNeg) → ∀ v3 : Int32, v3 = x3 + (1 : Int32) → P2 v3 σ2)))) → P2 x3 σ) →
  P2 (0 : Int32) σ
theorem in_X6_copies_X6 : ∀ w ∈ wsX60, w ∈ wsX6_copies := fun _ h => List.mem_cons_of_mem _ (List.mem_append_right _ h)
def rmX6_copies : Room := { frames := 0, cells := 0, slots := 0, locals := 0 }
theorem hdX6_copies : yX6_copies.cls = RX6 ∧ yX6_copies.cls ≠ "java/lang/invoke/MethodHandle" ∧ yX6_copies.cls ≠ "java/lang/invoke/VarHandle" ∧ (parseMethodDescriptor yX6_copies.desc).map (fun d => d.parameters.length) = some 2 := by decide +kernel
set_option maxHeartbeats 4000000 in
set_option maxRecDepth 100000 in
theorem c_X6_copies {l : Launch} {E : EE} {a1 : Int32} {a2 : Int32}  {σ : Mem} {Q : Mem → Prop} (h : wp_X6_copies a1 a2 σ Q) : CtV l yX6_copies wsX6_copies rmX6_copies E [.ref (eA E 64), .int a1, .int a2] σ Q := by
  refine metV (cc := cX6_copies) (nL := 4) (ret := none) (lv := [(0, .ref (eA E 64)), (1, .int a1), (2, .int a2)]) (by decide) rfl (Nat.le_of_ble_eq_true rfl) rfl ?_
  intro p e s m args below meth c C
  unfold wp_X6_copies at h
  replace h := h (fun (x3 : Int32) (σ : Mem) => J E p l e rmX6_copies s m args below meth c (QV E below args s Q) 4 2 [(0, .ref (eA E 64)), (1, .int a1), (2, .int a2), (3, .int x3)] [] σ) (by
    intro x3 σ h
    refine j_iload_n C 3 dX6_copies_2 rfl 3 rfl ?_
    refine j_bipush (v := (49 : Int32)) C dX6_copies_3 (by decide) ?_
    refine j_icmp_ge C 30 dX6_copies_5 (by decide) (fun c1 => ?_) (fun c1 => ?_)
    · replace h := h.1 c1
      exact j_vret C dX6_copies_30 h
    · replace h := h.2 c1
      refine j_aload_n C 0 dX6_copies_8 rfl 0 rfl ?_
      refine j_getR C 65 64 0 rfl rfl rfl in_X6_copies_X6 (by decide) (by decide +kernel) dX6_copies_9 ?_
      refine j_iload_n C 1 dX6_copies_12 rfl 1 rfl ?_
      refine j_iload_n C 3 dX6_copies_13 rfl 3 rfl ?_
      refine j_iadd C dX6_copies_14 ?_
      refine j_aload_n C 0 dX6_copies_15 rfl 0 rfl ?_
      refine j_getR C 65 64 0 rfl rfl rfl in_X6_copies_X6 (by decide) (by decide +kernel) dX6_copies_16 ?_
      refine j_iload_n C 2 dX6_copies_19 rfl 2 rfl ?_
      refine j_iload_n C 3 dX6_copies_20 rfl 3 rfl ?_
      refine j_iadd C dX6_copies_21 ?_
      refine j_iald C 65 rfl dX6_copies_22 h.1 ?_
      replace h := h.2
      refine j_iast C 65 rfl dX6_copies_23 h.1 ?_
      replace h := h.2
      refine j_mem (fun σ2 eσ2 => ?_)
      replace h := h σ2 eσ2
      obtain ⟨v3, ev3⟩ : ∃ y : Int32, y = x3 + (1 : Int32) := ⟨_, rfl⟩
      replace h := h v3 ev3
      refine j_iinc (v := v3) (lv' := [(3, .int v3), (0, .ref (eA E 64)), (1, .int a1), (2, .int a2)]) C 3 dX6_copies_24 3 rfl (by rw [ev3]; rfl) (by decide) rfl ?_
      refine j_goto C 2 dX6_copies_27 (by decide) ?_
      exact j_sub (lv' := [(0, .ref (eA E 64)), (1, .int a1), (2, .int a2), (3, .int v3)]) [1, 2, 3, 0] rfl h)
  refine j_iconst (v := (0 : Int32)) C dX6_copies_0 (by decide) ?_
  refine j_istore_n (lv' := [(3, .int (0 : Int32)), (0, .ref (eA E 64)), (1, .int a1), (2, .int a2)]) C 3 dX6_copies_1 rfl (by decide) rfl ?_
  exact j_sub (lv' := [(0, .ref (eA E 64)), (1, .int a1), (2, .int a2), (3, .int (0 : Int32))]) [1, 2, 3, 0] rfl h
def wp_X6_keep (a1 : Int32) (σ : Mem) (Q : Int32 → Mem → Prop) : Prop :=
  wp_X6_in ((a1).toInt64) (0 : Int64) (1 : Int64) σ (fun r2 σ1 => (¬ r2 = 0 → vp_in a1 2 ∧ (wp_X6_flag ((σ1.1 67 (a1).toNatClampNeg)) σ1 (fun r5 σ4 => vp_in a1 2 ∧ (∀ σ6 : Mem, σ6 = st1 σ4 67 (a1).toNatClampNeg (vp_nar .boolean (1 : Int32)) → wp_X6_copies (((49 : Int32) * (a1 + (1 : Int32)))) (0 : Int32) σ6 (fun σ7 => Q r5 σ7))))) ∧ (r2 = 0 → Q (-1 : Int32) σ1))
theorem in_X6_keep_X6 : ∀ w ∈ wsX60, w ∈ wsX6_keep := fun _ h => List.mem_cons_of_mem _ (List.mem_append_right _ h)
def rmX6_keep : Room := { frames := 1, cells := 0, slots := 0, locals := 25 }
theorem hdX6_keep : yX6_keep.cls = RX6 ∧ yX6_keep.cls ≠ "java/lang/invoke/MethodHandle" ∧ yX6_keep.cls ≠ "java/lang/invoke/VarHandle" ∧ (parseMethodDescriptor yX6_keep.desc).map (fun d => d.parameters.length) = some 1 := by decide +kernel
set_option maxHeartbeats 4000000 in
set_option maxRecDepth 100000 in
theorem c_X6_keep {l : Launch} {E : EE} {a1 : Int32}  {σ : Mem} {Q : Int32 → Mem → Prop} (h : wp_X6_keep a1 σ Q) : CtI l yX6_keep wsX6_keep rmX6_keep E [.ref (eA E 64), .int a1] σ Q := by
  refine metI (cc := cX6_keep) (nL := 3) (ret := (some .int)) (lv := [(0, .ref (eA E 64)), (1, .int a1)]) (by decide) rfl (Nat.le_of_ble_eq_true rfl) rfl ?_
  intro p e s m args below meth c C
  unfold wp_X6_keep at h
  refine j_iload_n C 1 dX6_keep_0 rfl 1 rfl ?_
  refine j_i2l C dX6_keep_1 rfl ?_
  refine j_lconst (v := (0 : Int64)) C dX6_keep_2 (by decide) ?_
  refine j_lconst (v := (1 : Int64)) C dX6_keep_3 (by decide) ?_
  refine j_callSI (As := [.long (a1).toInt64, .long (0 : Int64), .long (1 : Int64)]) (rest := []) C (c_X6_in h) (va_cwS 3 C.2.2.2.2.2.1 gX6_keep_X6_in rfl rfl rfl hdX6_in.2 ⟨Nat.le_of_ble_eq_true rfl, Nat.le_of_ble_eq_true rfl⟩) rfl rfl (Nat.le_of_ble_eq_true rfl) dX6_keep_4 (fun r2 σ1 h => ?_)
  refine j_if_ne C 12 dX6_keep_7 (by decide) (fun c3 => ?_) (fun c3 => ?_)
  · replace h := h.1 c3
    refine j_aload_n C 0 dX6_keep_12 rfl 0 rfl ?_
    refine j_getR C 67 64 2 rfl rfl rfl in_X6_keep_X6 (by decide) (by decide +kernel) dX6_keep_13 ?_
    refine j_iload_n C 1 dX6_keep_16 rfl 1 rfl ?_
    refine j_zald C 67 rfl dX6_keep_17 h.1 ?_
    replace h := h.2
    refine j_callSI (As := [.int (σ1.1 67 (a1).toNatClampNeg)]) (rest := []) C (c_X6_flag h) (va_cwS 1 C.2.2.2.2.2.1 gX6_keep_X6_flag rfl rfl rfl hdX6_flag.2 ⟨Nat.le_of_ble_eq_true rfl, Nat.le_of_ble_eq_true rfl⟩) rfl rfl (Nat.le_of_ble_eq_true rfl) dX6_keep_18 (fun r5 σ4 h => ?_)
    refine j_istore_n (lv' := [(2, .int r5), (0, .ref (eA E 64)), (1, .int a1)]) C 2 dX6_keep_21 rfl (by decide) rfl ?_
    refine j_aload_n C 0 dX6_keep_22 rfl 1 rfl ?_
    refine j_getR C 67 64 2 rfl rfl rfl in_X6_keep_X6 (by decide) (by decide +kernel) dX6_keep_23 ?_
    refine j_iload_n C 1 dX6_keep_26 rfl 2 rfl ?_
    refine j_iconst (v := (1 : Int32)) C dX6_keep_27 (by decide) ?_
    refine j_zast C 67 rfl dX6_keep_28 h.1 ?_
    replace h := h.2
    refine j_mem (fun σ6 eσ6 => ?_)
    replace h := h σ6 eσ6
    refine j_aload_n C 0 dX6_keep_29 rfl 1 rfl ?_
    refine j_bipush (v := (49 : Int32)) C dX6_keep_30 (by decide) ?_
    refine j_iload_n C 1 dX6_keep_32 rfl 2 rfl ?_
    refine j_iconst (v := (1 : Int32)) C dX6_keep_33 (by decide) ?_
    refine j_iadd C dX6_keep_34 ?_
    refine j_imul C dX6_keep_35 ?_
    refine j_iconst (v := (0 : Int32)) C dX6_keep_36 (by decide) ?_
    refine j_callVV (As := [.int ((49 : Int32) * (a1 + (1 : Int32))), .int (0 : Int32)]) (rest := []) C 64 (c_X6_copies h) (cwV 2 C.2.2.2.2.2.1 gX6_keep_X6_copies rfl rfl rfl hdX6_copies ⟨Nat.le_of_ble_eq_true rfl, Nat.le_of_ble_eq_true rfl⟩) rfl rfl rfl rfl (Nat.le_of_ble_eq_true rfl) dX6_keep_37 (fun σ7 h => ?_)
    refine j_iload_n C 2 dX6_keep_40 rfl 0 rfl ?_
    exact j_iret C dX6_keep_41 h
  · replace h := h.2 c3
    refine j_iconst (v := (-1 : Int32)) C dX6_keep_10 (by decide) ?_
    exact j_iret C dX6_keep_11 h
def wp_X6_back (a1 : Int32) (σ : Mem) (Q : Int32 → Mem → Prop) : Prop :=
  wp_X6_in ((a1).toInt64) (0 : Int64) (1 : Int64) σ (fun r2 σ1 => (¬ r2 = 0 → vp_in a1 2 ∧ ((¬ (σ1.1 67 (a1).toNatClampNeg) = 0 → wp_X6_copies (0 : Int32) (((49 : Int32) * (a1 + (1 : Int32)))) σ1 (fun σ5 => Q (σ5.1 65 ((32 : Int32)).toNatClampNeg) σ5)) ∧ ((σ1.1 67 (a1).toNatClampNeg) = 0 → Q (-2 : Int32) σ1))) ∧ (r2 = 0 → Q (-1 : Int32) σ1))
theorem in_X6_back_X6 : ∀ w ∈ wsX60, w ∈ wsX6_back := fun _ h => List.mem_cons_of_mem _ (List.mem_append_right _ h)
def rmX6_back : Room := { frames := 1, cells := 0, slots := 0, locals := 25 }
theorem hdX6_back : yX6_back.cls = RX6 ∧ yX6_back.cls ≠ "java/lang/invoke/MethodHandle" ∧ yX6_back.cls ≠ "java/lang/invoke/VarHandle" ∧ (parseMethodDescriptor yX6_back.desc).map (fun d => d.parameters.length) = some 1 := by decide +kernel
set_option maxHeartbeats 4000000 in
set_option maxRecDepth 100000 in
theorem c_X6_back {l : Launch} {E : EE} {a1 : Int32}  {σ : Mem} {Q : Int32 → Mem → Prop} (h : wp_X6_back a1 σ Q) : CtI l yX6_back wsX6_back rmX6_back E [.ref (eA E 64), .int a1] σ Q := by
  refine metI (cc := cX6_back) (nL := 2) (ret := (some .int)) (lv := [(0, .ref (eA E 64)), (1, .int a1)]) (by decide) rfl (Nat.le_of_ble_eq_true rfl) rfl ?_
  intro p e s m args below meth c C
  unfold wp_X6_back at h
  refine j_iload_n C 1 dX6_back_0 rfl 1 rfl ?_
  refine j_i2l C dX6_back_1 rfl ?_
  refine j_lconst (v := (0 : Int64)) C dX6_back_2 (by decide) ?_
  refine j_lconst (v := (1 : Int64)) C dX6_back_3 (by decide) ?_
  refine j_callSI (As := [.long (a1).toInt64, .long (0 : Int64), .long (1 : Int64)]) (rest := []) C (c_X6_in h) (va_cwS 3 C.2.2.2.2.2.1 gX6_back_X6_in rfl rfl rfl hdX6_in.2 ⟨Nat.le_of_ble_eq_true rfl, Nat.le_of_ble_eq_true rfl⟩) rfl rfl (Nat.le_of_ble_eq_true rfl) dX6_back_4 (fun r2 σ1 h => ?_)
  refine j_if_ne C 12 dX6_back_7 (by decide) (fun c3 => ?_) (fun c3 => ?_)
  · replace h := h.1 c3
    refine j_aload_n C 0 dX6_back_12 rfl 0 rfl ?_
    refine j_getR C 67 64 2 rfl rfl rfl in_X6_back_X6 (by decide) (by decide +kernel) dX6_back_13 ?_
    refine j_iload_n C 1 dX6_back_16 rfl 1 rfl ?_
    refine j_zald C 67 rfl dX6_back_17 h.1 ?_
    replace h := h.2
    refine j_if_ne C 24 dX6_back_18 (by decide) (fun c4 => ?_) (fun c4 => ?_)
    · replace h := h.1 c4
      refine j_aload_n C 0 dX6_back_24 rfl 0 rfl ?_
      refine j_iconst (v := (0 : Int32)) C dX6_back_25 (by decide) ?_
      refine j_bipush (v := (49 : Int32)) C dX6_back_26 (by decide) ?_
      refine j_iload_n C 1 dX6_back_28 rfl 1 rfl ?_
      refine j_iconst (v := (1 : Int32)) C dX6_back_29 (by decide) ?_
      refine j_iadd C dX6_back_30 ?_
      refine j_imul C dX6_back_31 ?_
      refine j_callVV (As := [.int (0 : Int32), .int ((49 : Int32) * (a1 + (1 : Int32)))]) (rest := []) C 64 (c_X6_copies h) (cwV 2 C.2.2.2.2.2.1 gX6_back_X6_copies rfl rfl rfl hdX6_copies ⟨Nat.le_of_ble_eq_true rfl, Nat.le_of_ble_eq_true rfl⟩) rfl rfl rfl rfl (Nat.le_of_ble_eq_true rfl) dX6_back_32 (fun σ5 h => ?_)
      refine j_aload_n C 0 dX6_back_35 rfl 0 rfl ?_
      refine j_getR C 65 64 0 rfl rfl rfl in_X6_back_X6 (by decide) (by decide +kernel) dX6_back_36 ?_
      refine j_bipush (v := (32 : Int32)) C dX6_back_39 (by decide) ?_
      refine j_iald C 65 rfl dX6_back_41 (in_lit rfl) ?_
      exact j_iret C dX6_back_42 h
    · replace h := h.2 c4
      refine j_bipush (v := (-2 : Int32)) C dX6_back_21 (by decide) ?_
      exact j_iret C dX6_back_23 h
  · replace h := h.2 c3
    refine j_iconst (v := (-1 : Int32)) C dX6_back_10 (by decide) ?_
    exact j_iret C dX6_back_11 h
def wp_X6_isSheet (a0 : Int32) (a1 : Int32) (σ : Mem) (Q : Int32 → Mem → Prop) : Prop :=
  wp_X6_in ((a0).toInt64) (0 : Int64) (3 : Int64) σ (fun r2 σ1 => (r2 = 0 → Q (0 : Int32) σ1) ∧ (¬ r2 = 0 → wp_X6_in ((a1).toInt64) (0 : Int64) (2 : Int64) σ1 (fun r5 σ4 => (r5 = 0 → Q (0 : Int32) σ4) ∧ (¬ r5 = 0 → Q (1 : Int32) σ4))))
def rmX6_isSheet : Room := { frames := 1, cells := 0, slots := 0, locals := 25 }
theorem hdX6_isSheet : yX6_isSheet.cls = RX6 ∧ yX6_isSheet.cls ≠ "java/lang/invoke/MethodHandle" ∧ yX6_isSheet.cls ≠ "java/lang/invoke/VarHandle" ∧ (parseMethodDescriptor yX6_isSheet.desc).map (fun d => d.parameters.length) = some 2 := by decide +kernel
set_option maxHeartbeats 4000000 in
set_option maxRecDepth 100000 in
theorem c_X6_isSheet {l : Launch} {E : EE} {a0 : Int32} {a1 : Int32}  {σ : Mem} {Q : Int32 → Mem → Prop} (h : wp_X6_isSheet a0 a1 σ Q) : CtI l yX6_isSheet wsX6_isSheet rmX6_isSheet E [.int a0, .int a1] σ Q := by
  refine metI (cc := cX6_isSheet) (nL := 2) (ret := (some .boolean)) (lv := [(0, .int a0), (1, .int a1)]) (by decide) rfl (Nat.le_of_ble_eq_true rfl) rfl ?_
  intro p e s m args below meth c C
  unfold wp_X6_isSheet at h
  refine j_iload_n C 0 dX6_isSheet_0 rfl 0 rfl ?_
  refine j_i2l C dX6_isSheet_1 rfl ?_
  refine j_lconst (v := (0 : Int64)) C dX6_isSheet_2 (by decide) ?_
  refine j_ldc2 C (3 : Int64) dX6_isSheet_3 (by decide +kernel) ?_
  refine j_callSI (As := [.long (a0).toInt64, .long (0 : Int64), .long (3 : Int64)]) (rest := []) C (c_X6_in h) (va_cwS 3 C.2.2.2.2.2.1 gX6_isSheet_X6_in rfl rfl rfl hdX6_in.2 ⟨Nat.le_of_ble_eq_true rfl, Nat.le_of_ble_eq_true rfl⟩) rfl rfl (Nat.le_of_ble_eq_true rfl) dX6_isSheet_6 (fun r2 σ1 h => ?_)
  refine j_if_eq C 28 dX6_isSheet_9 (by decide) (fun c3 => ?_) (fun c3 => ?_)
  · replace h := h.1 c3
    refine j_iconst (v := (0 : Int32)) C dX6_isSheet_28 (by decide) ?_
    exact j_zret C dX6_isSheet_29 (Or.inl rfl) h
  · replace h := h.2 c3
    refine j_iload_n C 1 dX6_isSheet_12 rfl 1 rfl ?_
    refine j_i2l C dX6_isSheet_13 rfl ?_
    refine j_lconst (v := (0 : Int64)) C dX6_isSheet_14 (by decide) ?_
    refine j_ldc2 C (2 : Int64) dX6_isSheet_15 (by decide +kernel) ?_
    refine j_callSI (As := [.long (a1).toInt64, .long (0 : Int64), .long (2 : Int64)]) (rest := []) C (c_X6_in h) (va_cwS 3 C.2.2.2.2.2.1 gX6_isSheet_X6_in rfl rfl rfl hdX6_in.2 ⟨Nat.le_of_ble_eq_true rfl, Nat.le_of_ble_eq_true rfl⟩) rfl rfl (Nat.le_of_ble_eq_true rfl) dX6_isSheet_18 (fun r5 σ4 h => ?_)
    refine j_if_eq C 28 dX6_isSheet_21 (by decide) (fun c6 => ?_) (fun c6 => ?_)
    · replace h := h.1 c6
      refine j_iconst (v := (0 : Int32)) C dX6_isSheet_28 (by decide) ?_
      exact j_zret C dX6_isSheet_29 (Or.inl rfl) h
    · replace h := h.2 c6
      refine j_iconst (v := (1 : Int32)) C dX6_isSheet_24 (by decide) ?_
      refine j_goto C 29 dX6_isSheet_25 (by decide) ?_
      exact j_zret C dX6_isSheet_29 (Or.inr rfl) h
def wp_X6_sheet (a1 : Int32) (a2 : Int32) (a3 : Int32) (σ : Mem) (Q : Int32 → Mem → Prop) : Prop :=
  ∀ (P40 : Int32 → Mem → Prop),
  (∀ (x4 : Int32) (σ : Mem), (((40 : Int32) ≤ x4 → Q (1 : Int32) σ) ∧ (¬ (40 : Int32) ≤ x4 → vp_in (((40 : Int32) * a1) + x4) 160 ∧ (∀ σ2 : Mem, σ2 = st1 σ 76 ((((40 : Int32) * a1) + x4)).toNatClampNeg (0 : Int32) → ∀ v3 : Int32, v3 = x4 + (1 : Int32) → P40 v3 σ2))) → P40 x4 σ) →
  wp_X6_isSheet a1 a2 σ (fun r5 σ4 => (r5 = 0 → Q (-1 : Int32) σ4) ∧ (¬ r5 = 0 → (a3 ≤ (40 : Int32) → (0 ≤ a3 → vp_in a1 4 ∧ (∀ σ9 : Mem, σ9 = st1 σ4 74 (a1).toNatClampNeg a2 → vp_in a1 4 ∧ (∀ σ10 : Mem, σ10 = st1 σ9 75 (a1).toNatClampNeg a3 → P40 (0 : Int32) σ10))) ∧ (¬ 0 ≤ a3 → Q (-14 : Int32) σ4)) ∧ (¬ a3 ≤ (40 : Int32) → Q (-1 : Int32) σ4)))
theorem in_X6_sheet_X6 : ∀ w ∈ wsX60, w ∈ wsX6_sheet := fun _ h => List.mem_cons_of_mem _ (List.mem_append_right _ h)
def rmX6_sheet : Room := { frames := 2, cells := 0, slots := 0, locals := 46 }
theorem hdX6_sheet : yX6_sheet.cls = RX6 ∧ yX6_sheet.cls ≠ "java/lang/invoke/MethodHandle" ∧ yX6_sheet.cls ≠ "java/lang/invoke/VarHandle" ∧ (parseMethodDescriptor yX6_sheet.desc).map (fun d => d.parameters.length) = some 3 := by decide +kernel
set_option maxHeartbeats 4000000 in
set_option maxRecDepth 100000 in
theorem c_X6_sheet {l : Launch} {E : EE} {a1 : Int32} {a2 : Int32} {a3 : Int32}  {σ : Mem} {Q : Int32 → Mem → Prop} (h : wp_X6_sheet a1 a2 a3 σ Q) : CtI l yX6_sheet wsX6_sheet rmX6_sheet E [.ref (eA E 64), .int a1, .int a2, .int a3] σ Q := by
  refine metI (cc := cX6_sheet) (nL := 5) (ret := (some .int)) (lv := [(0, .ref (eA E 64)), (1, .int a1), (2, .int a2), (3, .int a3)]) (by decide) rfl (Nat.le_of_ble_eq_true rfl) rfl ?_
  intro p e s m args below meth c C
  unfold wp_X6_sheet at h
  replace h := h (fun (x4 : Int32) (σ : Mem) => J E p l e rmX6_sheet s m args below meth c (QI E below args s Q) 5 40 [(0, .ref (eA E 64)), (1, .int a1), (4, .int x4)] [] σ) (by
    intro x4 σ h
    refine j_iload C 4 dX6_sheet_40 2 rfl ?_
    refine j_bipush (v := (40 : Int32)) C dX6_sheet_42 (by decide) ?_
    refine j_icmp_ge C 66 dX6_sheet_44 (by decide) (fun c1 => ?_) (fun c1 => ?_)
    · replace h := h.1 c1
      refine j_iconst (v := (1 : Int32)) C dX6_sheet_66 (by decide) ?_
      exact j_iret C dX6_sheet_67 h
    · replace h := h.2 c1
      refine j_aload_n C 0 dX6_sheet_47 rfl 0 rfl ?_
      refine j_getR C 76 64 28 rfl rfl rfl in_X6_sheet_X6 (by decide) (by decide +kernel) dX6_sheet_48 ?_
      refine j_bipush (v := (40 : Int32)) C dX6_sheet_51 (by decide) ?_
      refine j_iload_n C 1 dX6_sheet_53 rfl 1 rfl ?_
      refine j_imul C dX6_sheet_54 ?_
      refine j_iload C 4 dX6_sheet_55 2 rfl ?_
      refine j_iadd C dX6_sheet_57 ?_
      refine j_iconst (v := (0 : Int32)) C dX6_sheet_58 (by decide) ?_
      refine j_iast C 76 rfl dX6_sheet_59 h.1 ?_
      replace h := h.2
      refine j_mem (fun σ2 eσ2 => ?_)
      replace h := h σ2 eσ2
      obtain ⟨v3, ev3⟩ : ∃ y : Int32, y = x4 + (1 : Int32) := ⟨_, rfl⟩
      replace h := h v3 ev3
      refine j_iinc (v := v3) (lv' := [(4, .int v3), (0, .ref (eA E 64)), (1, .int a1)]) C 4 dX6_sheet_60 2 rfl (by rw [ev3]; rfl) (by decide) rfl ?_
      refine j_goto C 40 dX6_sheet_63 (by decide) ?_
      exact j_sub (lv' := [(0, .ref (eA E 64)), (1, .int a1), (4, .int v3)]) [1, 2, 0] rfl h)
  refine j_iload_n C 1 dX6_sheet_0 rfl 1 rfl ?_
  refine j_iload_n C 2 dX6_sheet_1 rfl 2 rfl ?_
  refine j_callSI (As := [.int a1, .int a2]) (rest := []) C (c_X6_isSheet h) (va_cwS 2 C.2.2.2.2.2.1 gX6_sheet_X6_isSheet rfl rfl rfl hdX6_isSheet.2 ⟨Nat.le_of_ble_eq_true rfl, Nat.le_of_ble_eq_true rfl⟩) rfl rfl (Nat.le_of_ble_eq_true rfl) dX6_sheet_2 (fun r5 σ4 h => ?_)
  refine j_if_eq C 14 dX6_sheet_5 (by decide) (fun c6 => ?_) (fun c6 => ?_)
  · replace h := h.1 c6
    refine j_iconst (v := (-1 : Int32)) C dX6_sheet_14 (by decide) ?_
    exact j_iret C dX6_sheet_15 h
  · replace h := h.2 c6
    refine j_iload_n C 3 dX6_sheet_8 rfl 3 rfl ?_
    refine j_bipush (v := (40 : Int32)) C dX6_sheet_9 (by decide) ?_
    refine j_icmp_le C 16 dX6_sheet_11 (by decide) (fun c7 => ?_) (fun c7 => ?_)
    · replace h := h.1 c7
      refine j_iload_n C 3 dX6_sheet_16 rfl 3 rfl ?_
      refine j_if_ge C 23 dX6_sheet_17 (by decide) (fun c8 => ?_) (fun c8 => ?_)
      · replace h := h.1 c8
        refine j_aload_n C 0 dX6_sheet_23 rfl 0 rfl ?_
        refine j_getR C 74 64 26 rfl rfl rfl in_X6_sheet_X6 (by decide) (by decide +kernel) dX6_sheet_24 ?_
        refine j_iload_n C 1 dX6_sheet_27 rfl 1 rfl ?_
        refine j_iload_n C 2 dX6_sheet_28 rfl 2 rfl ?_
        refine j_iast C 74 rfl dX6_sheet_29 h.1 ?_
        replace h := h.2
        refine j_mem (fun σ9 eσ9 => ?_)
        replace h := h σ9 eσ9
        refine j_aload_n C 0 dX6_sheet_30 rfl 0 rfl ?_
        refine j_getR C 75 64 27 rfl rfl rfl in_X6_sheet_X6 (by decide) (by decide +kernel) dX6_sheet_31 ?_
        refine j_iload_n C 1 dX6_sheet_34 rfl 1 rfl ?_
        refine j_iload_n C 3 dX6_sheet_35 rfl 3 rfl ?_
        refine j_iast C 75 rfl dX6_sheet_36 h.1 ?_
        replace h := h.2
        refine j_mem (fun σ10 eσ10 => ?_)
        replace h := h σ10 eσ10
        refine j_iconst (v := (0 : Int32)) C dX6_sheet_37 (by decide) ?_
        refine j_istore (lv' := [(4, .int (0 : Int32)), (0, .ref (eA E 64)), (1, .int a1), (2, .int a2), (3, .int a3)]) C 4 dX6_sheet_38 (by decide) rfl ?_
        exact j_sub (lv' := [(0, .ref (eA E 64)), (1, .int a1), (4, .int (0 : Int32))]) [1, 2, 0] rfl h
      · replace h := h.2 c8
        refine j_bipush (v := (-14 : Int32)) C dX6_sheet_20 (by decide) ?_
        exact j_iret C dX6_sheet_22 h
    · replace h := h.2 c7
      refine j_iconst (v := (-1 : Int32)) C dX6_sheet_14 (by decide) ?_
      exact j_iret C dX6_sheet_15 h
def wp_X6_lay (a1 : Int32) (a2 : Int32) (a3 : Int32) (σ : Mem) (Q : Int32 → Mem → Prop) : Prop :=
  ∀ (P85 : Int32 → Int32 → Mem → Prop),
  (∀ (s0 : Int32) (s1 : Int32) (σ : Mem), (vp_in s1 160 ∧ (∀ σ1 : Mem, σ1 = st1 σ 76 (s1).toNatClampNeg s0 → Q (1 : Int32) σ1)) → P85 s0 s1 σ) →
  wp_X6_isSheet a1 (0 : Int32) σ (fun r3 σ2 => (¬ r3 = 0 → vp_in a1 4 ∧ ((¬ (σ2.1 74 (a1).toNatClampNeg) = (-4 : Int32) → vp_in a1 4 ∧ (wp_X6_in ((a2).toInt64) (0 : Int64) ((((σ2.1 75 (a1).toNatClampNeg) - (1 : Int32))).toInt64) σ2 (fun r7 σ6 => (¬ r7 = 0 → vp_in a1 4 ∧ ((¬ (σ6.1 74 (a1).toNatClampNeg) = 0 → vp_in a1 4 ∧ ((¬ (σ6.1 74 (a1).toNatClampNeg) = (1 : Int32) → P85 a3 ((((40 : Int32) * a1) + a2)) σ6) ∧ ((σ6.1 74 (a1).toNatClampNeg) = (1 : Int32) → P85 ((a3).toInt16.toInt32) ((((40 : Int32) * a1) + a2)) σ6))) ∧ ((σ6.1 74 (a1).toNatClampNeg) = 0 → P85 ((a3).toInt8.toInt32) ((((40 : Int32) * a1) + a2)) σ6))) ∧ (r7 = 0 → Q (-12 : Int32) σ6)))) ∧ ((σ2.1 74 (a1).toNatClampNeg) = (-4 : Int32) → Q (-11 : Int32) σ2))) ∧ (r3 = 0 → Q (-1 : Int32) σ2))
theorem in_X6_lay_X6 : ∀ w ∈ wsX60, w ∈ wsX6_lay := fun _ h => List.mem_cons_of_mem _ (List.mem_append_right _ h)
def rmX6_lay : Room := { frames := 2, cells := 0, slots := 0, locals := 46 }
theorem hdX6_lay : yX6_lay.cls = RX6 ∧ yX6_lay.cls ≠ "java/lang/invoke/MethodHandle" ∧ yX6_lay.cls ≠ "java/lang/invoke/VarHandle" ∧ (parseMethodDescriptor yX6_lay.desc).map (fun d => d.parameters.length) = some 3 := by decide +kernel
set_option maxHeartbeats 4000000 in
set_option maxRecDepth 100000 in
theorem c_X6_lay {l : Launch} {E : EE} {a1 : Int32} {a2 : Int32} {a3 : Int32}  {σ : Mem} {Q : Int32 → Mem → Prop} (h : wp_X6_lay a1 a2 a3 σ Q) : CtI l yX6_lay wsX6_lay rmX6_lay E [.ref (eA E 64), .int a1, .int a2, .int a3] σ Q := by
  refine metI (cc := cX6_lay) (nL := 4) (ret := (some .int)) (lv := [(0, .ref (eA E 64)), (1, .int a1), (2, .int a2), (3, .int a3)]) (by decide) rfl (Nat.le_of_ble_eq_true rfl) rfl ?_
  intro p e s m args below meth c C
  unfold wp_X6_lay at h
  replace h := h (fun (s0 : Int32) (s1 : Int32) (σ : Mem) => J E p l e rmX6_lay s m args below meth c (QI E below args s Q) 4 85 [] [.int s0, .int s1, .ref (eA E 76)] σ) (by
    intro s0 s1 σ h
    refine j_iast C 76 rfl dX6_lay_85 h.1 ?_
    replace h := h.2
    refine j_mem (fun σ1 eσ1 => ?_)
    replace h := h σ1 eσ1
    refine j_iconst (v := (1 : Int32)) C dX6_lay_86 (by decide) ?_
    exact j_iret C dX6_lay_87 h)
  refine j_iload_n C 1 dX6_lay_0 rfl 1 rfl ?_
  refine j_iconst (v := (0 : Int32)) C dX6_lay_1 (by decide) ?_
  refine j_callSI (As := [.int a1, .int (0 : Int32)]) (rest := []) C (c_X6_isSheet h) (va_cwS 2 C.2.2.2.2.2.1 gX6_lay_X6_isSheet rfl rfl rfl hdX6_isSheet.2 ⟨Nat.le_of_ble_eq_true rfl, Nat.le_of_ble_eq_true rfl⟩) rfl rfl (Nat.le_of_ble_eq_true rfl) dX6_lay_2 (fun r3 σ2 h => ?_)
  refine j_if_ne C 10 dX6_lay_5 (by decide) (fun c4 => ?_) (fun c4 => ?_)
  · replace h := h.1 c4
    refine j_aload_n C 0 dX6_lay_10 rfl 0 rfl ?_
    refine j_getR C 74 64 26 rfl rfl rfl in_X6_lay_X6 (by decide) (by decide +kernel) dX6_lay_11 ?_
    refine j_iload_n C 1 dX6_lay_14 rfl 1 rfl ?_
    refine j_iald C 74 rfl dX6_lay_15 h.1 ?_
    replace h := h.2
    refine j_bipush (v := (-4 : Int32)) C dX6_lay_16 (by decide) ?_
    refine j_icmp_ne C 24 dX6_lay_18 (by decide) (fun c5 => ?_) (fun c5 => ?_)
    · replace h := h.1 c5
      refine j_iload_n C 2 dX6_lay_24 rfl 2 rfl ?_
      refine j_i2l C dX6_lay_25 rfl ?_
      refine j_lconst (v := (0 : Int64)) C dX6_lay_26 (by decide) ?_
      refine j_aload_n C 0 dX6_lay_27 rfl 0 rfl ?_
      refine j_getR C 75 64 27 rfl rfl rfl in_X6_lay_X6 (by decide) (by decide +kernel) dX6_lay_28 ?_
      refine j_iload_n C 1 dX6_lay_31 rfl 1 rfl ?_
      refine j_iald C 75 rfl dX6_lay_32 h.1 ?_
      replace h := h.2
      refine j_iconst (v := (1 : Int32)) C dX6_lay_33 (by decide) ?_
      refine j_isub C dX6_lay_34 ?_
      refine j_i2l C dX6_lay_35 rfl ?_
      refine j_callSI (As := [.long (a2).toInt64, .long (0 : Int64), .long (((σ2.1 75 (a1).toNatClampNeg) - (1 : Int32))).toInt64]) (rest := []) C (c_X6_in h) (va_cwS 3 C.2.2.2.2.2.1 gX6_lay_X6_in rfl rfl rfl hdX6_in.2 ⟨Nat.le_of_ble_eq_true rfl, Nat.le_of_ble_eq_true rfl⟩) rfl rfl (Nat.le_of_ble_eq_true rfl) dX6_lay_36 (fun r7 σ6 h => ?_)
      refine j_if_ne C 45 dX6_lay_39 (by decide) (fun c8 => ?_) (fun c8 => ?_)
      · replace h := h.1 c8
        refine j_aload_n C 0 dX6_lay_45 rfl 0 rfl ?_
        refine j_getR C 76 64 28 rfl rfl rfl in_X6_lay_X6 (by decide) (by decide +kernel) dX6_lay_46 ?_
        refine j_bipush (v := (40 : Int32)) C dX6_lay_49 (by decide) ?_
        refine j_iload_n C 1 dX6_lay_51 rfl 1 rfl ?_
        refine j_imul C dX6_lay_52 ?_
        refine j_iload_n C 2 dX6_lay_53 rfl 2 rfl ?_
        refine j_iadd C dX6_lay_54 ?_
        refine j_aload_n C 0 dX6_lay_55 rfl 0 rfl ?_
        refine j_getR C 74 64 26 rfl rfl rfl in_X6_lay_X6 (by decide) (by decide +kernel) dX6_lay_56 ?_
        refine j_iload_n C 1 dX6_lay_59 rfl 1 rfl ?_
        refine j_iald C 74 rfl dX6_lay_60 h.1 ?_
        replace h := h.2
        refine j_if_ne C 69 dX6_lay_61 (by decide) (fun c9 => ?_) (fun c9 => ?_)
        · replace h := h.1 c9
          refine j_aload_n C 0 dX6_lay_69 rfl 0 rfl ?_
          refine j_getR C 74 64 26 rfl rfl rfl in_X6_lay_X6 (by decide) (by decide +kernel) dX6_lay_70 ?_
          refine j_iload_n C 1 dX6_lay_73 rfl 1 rfl ?_
          refine j_iald C 74 rfl dX6_lay_74 h.1 ?_
          replace h := h.2
          refine j_iconst (v := (1 : Int32)) C dX6_lay_75 (by decide) ?_
          refine j_icmp_ne C 84 dX6_lay_76 (by decide) (fun c10 => ?_) (fun c10 => ?_)
          · replace h := h.1 c10
            refine j_iload_n C 3 dX6_lay_84 rfl 3 rfl ?_
            exact j_sub (lv' := []) [] rfl h
          · replace h := h.2 c10
            refine j_iload_n C 3 dX6_lay_79 rfl 3 rfl ?_
            refine j_i2s C dX6_lay_80 rfl ?_
            refine j_goto C 85 dX6_lay_81 (by decide) ?_
            exact j_sub (lv' := []) [] rfl h
        · replace h := h.2 c9
          refine j_iload_n C 3 dX6_lay_64 rfl 3 rfl ?_
          refine j_i2b C dX6_lay_65 rfl ?_
          refine j_goto C 85 dX6_lay_66 (by decide) ?_
          exact j_sub (lv' := []) [] rfl h
      · replace h := h.2 c8
        refine j_bipush (v := (-12 : Int32)) C dX6_lay_42 (by decide) ?_
        exact j_iret C dX6_lay_44 h
    · replace h := h.2 c5
      refine j_bipush (v := (-11 : Int32)) C dX6_lay_21 (by decide) ?_
      exact j_iret C dX6_lay_23 h
  · replace h := h.2 c4
    refine j_iconst (v := (-1 : Int32)) C dX6_lay_8 (by decide) ?_
    exact j_iret C dX6_lay_9 h
def wp_X6_read (a1 : Int32) (a2 : Int32) (a3 : Int32) (a4 : Int32) (σ : Mem) (Q : Int32 → Mem → Prop) : Prop :=
  ∀ (P26 : Int32 → Mem → Prop) (P62 : Int32 → Int32 → Int32 → Mem → Prop) (P77 : Int32 → Int32 → Int32 → Int32 → Mem → Prop) (P151 : Int32 → Int32 → Int32 → Mem → Prop) (P156 : Int32 → Int32 → Int32 → Int32 → Mem → Prop) (P164 : Int32 → Int32 → Int32 → Mem → Prop) (P215 : Int32 → Mem → Prop) (P218 : Int32 → Int32 → Mem → Prop) (P254 : Int32 → Int32 → Int32 → Mem → Prop) (P260 : Int32 → Int32 → Mem → Prop),
  (∀ (x5 : Int32) (σ : Mem), (((49 : Int32) ≤ x5 → P62 (0 : Int32) (0 : Int32) (0 : Int32) σ) ∧ (¬ (49 : Int32) ≤ x5 → vp_in x5 147 ∧ (vp_in x5 49 ∧ (∀ σ2 : Mem, σ2 = st1 σ 77 (x5).toNatClampNeg (σ.1 65 (x5).toNatClampNeg) → ∀ v3 : Int32, v3 = x5 + (1 : Int32) → P26 v3 σ2)))) → P26 x5 σ) →
  (∀ (x5 : Int32) (x6 : Int32) (x7 : Int32) (σ : Mem), ((a4 ≤ x7 → P260 x5 x6 σ) ∧ (¬ a4 ≤ x7 → (¬ x5 = 0 → P260 x5 x6 σ) ∧ (x5 = 0 → P77 x5 x6 x7 (0 : Int32) σ))) → P62 x5 x6 x7 σ) →
  (∀ (x5 : Int32) (x6 : Int32) (x7 : Int32) (x8 : Int32) (σ : Mem), (((2 : Int32) ≤ x8 → P164 x5 x6 x7 σ) ∧ (¬ (2 : Int32) ≤ x8 → (¬ x5 = 0 → P164 x5 x6 x7 σ) ∧ (x5 = 0 → ∀ v8 : Int64, v8 = (((a3).toInt64 + (((2 : Int32) * x7)).toInt64) + (x8).toInt64) → vp_in a1 4 ∧ ((¬ (σ.1 74 (a1).toNatClampNeg) = (-4 : Int32) → vp_in a1 4 ∧ (((σ.1 74 (a1).toNatClampNeg) = a2 → ((lg_cmp v8 (0 : Int64)) < 0 → P151 x6 x7 x8 σ) ∧ (¬ (lg_cmp v8 (0 : Int64)) < 0 → vp_in a1 4 ∧ (((lg_cmp v8 ((σ.1 75 (a1).toNatClampNeg)).toInt64) < 0 → P156 x6 x7 x8 (0 : Int32) σ) ∧ (¬ (lg_cmp v8 ((σ.1 75 (a1).toNatClampNeg)).toInt64) < 0 → P151 x6 x7 x8 σ)))) ∧ (¬ (σ.1 74 (a1).toNatClampNeg) = a2 → P156 x6 x7 x8 (3 : Int32) σ))) ∧ ((σ.1 74 (a1).toNatClampNeg) = (-4 : Int32) → P156 x6 x7 x8 (1 : Int32) σ))))) → P77 x5 x6 x7 x8 σ) →
  (∀ (x6 : Int32) (x7 : Int32) (x8 : Int32) (σ : Mem), (P156 x6 x7 x8 (2 : Int32) σ) → P151 x6 x7 x8 σ) →
  (∀ (x6 : Int32) (x7 : Int32) (x8 : Int32) (s0 : Int32) (σ : Mem), (∀ v13 : Int32, v13 = x8 + (1 : Int32) → P77 s0 x6 x7 v13 σ) → P156 x6 x7 x8 s0 σ) →
  (∀ (x5 : Int32) (x6 : Int32) (x7 : Int32) (σ : Mem), ((¬ x5 = 0 → P254 x5 x6 x7 σ) ∧ (x5 = 0 → ∀ v15 : Int32, v15 = ((((40 : Int32) * a1) + a3) + ((2 : Int32) * x7)) → vp_in v15 160 ∧ (vp_in (v15 + (1 : Int32)) 160 ∧ (wp_X6_alter ((σ.1 76 (v15).toNatClampNeg)) (1 : Int32) ((σ.1 76 ((v15 + (1 : Int32))).toNatClampNeg)) σ (fun r17 σ16 => (r17 = (-1 : Int32) → P215 x7 σ16) ∧ (¬ r17 = (-1 : Int32) → wp_X6_reigns (1 : Int32) σ16 (fun r20 σ19 => (0 ≤ r20 → ∀ v22 : Int32, v22 = x6 + (1 : Int32) → P254 x5 v22 x7 σ19) ∧ (¬ 0 ≤ r20 → P215 x7 σ19)))))))) → P164 x5 x6 x7 σ) →
  (∀ (x7 : Int32) (σ : Mem), (P218 x7 (0 : Int32) σ) → P215 x7 σ) →
  (∀ (x7 : Int32) (x9 : Int32) (σ : Mem), (((49 : Int32) ≤ x9 → Q ((-20 : Int32) - x7) σ) ∧ (¬ (49 : Int32) ≤ x9 → vp_in x9 49 ∧ (vp_in x9 147 ∧ (∀ σ24 : Mem, σ24 = st1 σ 65 (x9).toNatClampNeg (σ.1 77 (x9).toNatClampNeg) → ∀ v25 : Int32, v25 = x9 + (1 : Int32) → P218 x7 v25 σ24)))) → P218 x7 x9 σ) →
  (∀ (x5 : Int32) (x6 : Int32) (x7 : Int32) (σ : Mem), (∀ v26 : Int32, v26 = x7 + (1 : Int32) → P62 x5 x6 v26 σ) → P254 x5 x6 x7 σ) →
  (∀ (x5 : Int32) (x6 : Int32) (σ : Mem), (∀ σ27 : Mem, σ27 = st1 σ 64 29 x5 → Q x6 σ27) → P260 x5 x6 σ) →
  wp_X6_isSheet a1 a2 σ (fun r29 σ28 => (r29 = 0 → Q (-1 : Int32) σ28) ∧ (¬ r29 = 0 → wp_X6_in ((a4).toInt64) (0 : Int64) (20 : Int64) σ28 (fun r32 σ31 => (¬ r32 = 0 → P26 (0 : Int32) σ31) ∧ (r32 = 0 → Q (-1 : Int32) σ31))))
theorem in_X6_read_X6 : ∀ w ∈ wsX60, w ∈ wsX6_read := fun _ h => List.mem_cons_of_mem _ (List.mem_append_right _ h)
def rmX6_read : Room := { frames := 5, cells := 0, slots := 0, locals := 110 }
theorem hdX6_read : yX6_read.cls = RX6 ∧ yX6_read.cls ≠ "java/lang/invoke/MethodHandle" ∧ yX6_read.cls ≠ "java/lang/invoke/VarHandle" ∧ (parseMethodDescriptor yX6_read.desc).map (fun d => d.parameters.length) = some 4 := by decide +kernel
set_option maxHeartbeats 4000000 in
set_option maxRecDepth 100000 in
theorem c_X6_read {l : Launch} {E : EE} {a1 : Int32} {a2 : Int32} {a3 : Int32} {a4 : Int32}  {σ : Mem} {Q : Int32 → Mem → Prop} (h : wp_X6_read a1 a2 a3 a4 σ Q) : CtI l yX6_read wsX6_read rmX6_read E [.ref (eA E 64), .int a1, .int a2, .int a3, .int a4] σ Q := by
  refine metI (cc := cX6_read) (nL := 11) (ret := (some .int)) (lv := [(0, .ref (eA E 64)), (1, .int a1), (2, .int a2), (3, .int a3), (4, .int a4)]) (by decide) rfl (Nat.le_of_ble_eq_true rfl) rfl ?_
  intro p e s m args below meth c C
  unfold wp_X6_read at h
  replace h := h (fun (x5 : Int32) (σ : Mem) => J E p l e rmX6_read s m args below meth c (QI E below args s Q) 11 26 [(0, .ref (eA E 64)), (1, .int a1), (2, .int a2), (3, .int a3), (4, .int a4), (5, .int x5)] [] σ) (fun (x5 : Int32) (x6 : Int32) (x7 : Int32) (σ : Mem) => J E p l e rmX6_read s m args below meth c (QI E below args s Q) 11 62 [(0, .ref (eA E 64)), (1, .int a1), (2, .int a2), (3, .int a3), (4, .int a4), (5, .int x5), (6, .int x6), (7, .int x7)] [] σ) (fun (x5 : Int32) (x6 : Int32) (x7 : Int32) (x8 : Int32) (σ : Mem) => J E p l e rmX6_read s m args below meth c (QI E below args s Q) 11 77 [(0, .ref (eA E 64)), (1, .int a1), (2, .int a2), (3, .int a3), (4, .int a4), (5, .int x5), (6, .int x6), (7, .int x7), (8, .int x8)] [] σ) (fun (x6 : Int32) (x7 : Int32) (x8 : Int32) (σ : Mem) => J E p l e rmX6_read s m args below meth c (QI E below args s Q) 11 151 [(0, .ref (eA E 64)), (1, .int a1), (2, .int a2), (3, .int a3), (4, .int a4), (6, .int x6), (7, .int x7), (8, .int x8)] [] σ) (fun (x6 : Int32) (x7 : Int32) (x8 : Int32) (s0 : Int32) (σ : Mem) => J E p l e rmX6_read s m args below meth c (QI E below args s Q) 11 156 [(0, .ref (eA E 64)), (1, .int a1), (2, .int a2), (3, .int a3), (4, .int a4), (6, .int x6), (7, .int x7), (8, .int x8)] [.int s0] σ) (fun (x5 : Int32) (x6 : Int32) (x7 : Int32) (σ : Mem) => J E p l e rmX6_read s m args below meth c (QI E below args s Q) 11 164 [(0, .ref (eA E 64)), (1, .int a1), (2, .int a2), (3, .int a3), (4, .int a4), (5, .int x5), (6, .int x6), (7, .int x7)] [] σ) (fun (x7 : Int32) (σ : Mem) => J E p l e rmX6_read s m args below meth c (QI E below args s Q) 11 215 [(0, .ref (eA E 64)), (7, .int x7)] [] σ) (fun (x7 : Int32) (x9 : Int32) (σ : Mem) => J E p l e rmX6_read s m args below meth c (QI E below args s Q) 11 218 [(0, .ref (eA E 64)), (7, .int x7), (9, .int x9)] [] σ) (fun (x5 : Int32) (x6 : Int32) (x7 : Int32) (σ : Mem) => J E p l e rmX6_read s m args below meth c (QI E below args s Q) 11 254 [(0, .ref (eA E 64)), (1, .int a1), (2, .int a2), (3, .int a3), (4, .int a4), (5, .int x5), (6, .int x6), (7, .int x7)] [] σ) (fun (x5 : Int32) (x6 : Int32) (σ : Mem) => J E p l e rmX6_read s m args below meth c (QI E below args s Q) 11 260 [(0, .ref (eA E 64)), (5, .int x5), (6, .int x6)] [] σ) (by
    intro x5 σ h
    refine j_iload C 5 dX6_read_26 5 rfl ?_
    refine j_bipush (v := (49 : Int32)) C dX6_read_28 (by decide) ?_
    refine j_icmp_ge C 53 dX6_read_30 (by decide) (fun c1 => ?_) (fun c1 => ?_)
    · replace h := h.1 c1
      refine j_iconst (v := (0 : Int32)) C dX6_read_53 (by decide) ?_
      refine j_istore (lv' := [(5, .int (0 : Int32)), (0, .ref (eA E 64)), (1, .int a1), (2, .int a2), (3, .int a3), (4, .int a4)]) C 5 dX6_read_54 (by decide) rfl ?_
      refine j_iconst (v := (0 : Int32)) C dX6_read_56 (by decide) ?_
      refine j_istore (lv' := [(6, .int (0 : Int32)), (5, .int (0 : Int32)), (0, .ref (eA E 64)), (1, .int a1), (2, .int a2), (3, .int a3), (4, .int a4)]) C 6 dX6_read_57 (by decide) rfl ?_
      refine j_iconst (v := (0 : Int32)) C dX6_read_59 (by decide) ?_
      refine j_istore (lv' := [(7, .int (0 : Int32)), (6, .int (0 : Int32)), (5, .int (0 : Int32)), (0, .ref (eA E 64)), (1, .int a1), (2, .int a2), (3, .int a3), (4, .int a4)]) C 7 dX6_read_60 (by decide) rfl ?_
      exact j_sub (lv' := [(0, .ref (eA E 64)), (1, .int a1), (2, .int a2), (3, .int a3), (4, .int a4), (5, .int (0 : Int32)), (6, .int (0 : Int32)), (7, .int (0 : Int32))]) [3, 4, 5, 6, 7, 2, 1, 0] rfl h
    · replace h := h.2 c1
      refine j_aload_n C 0 dX6_read_33 rfl 0 rfl ?_
      refine j_getR C 77 64 30 rfl rfl rfl in_X6_read_X6 (by decide) (by decide +kernel) dX6_read_34 ?_
      refine j_iload C 5 dX6_read_37 5 rfl ?_
      refine j_aload_n C 0 dX6_read_39 rfl 0 rfl ?_
      refine j_getR C 65 64 0 rfl rfl rfl in_X6_read_X6 (by decide) (by decide +kernel) dX6_read_40 ?_
      refine j_iload C 5 dX6_read_43 5 rfl ?_
      refine j_iald C 65 rfl dX6_read_45 h.1 ?_
      replace h := h.2
      refine j_iast C 77 rfl dX6_read_46 h.1 ?_
      replace h := h.2
      refine j_mem (fun σ2 eσ2 => ?_)
      replace h := h σ2 eσ2
      obtain ⟨v3, ev3⟩ : ∃ y : Int32, y = x5 + (1 : Int32) := ⟨_, rfl⟩
      replace h := h v3 ev3
      refine j_iinc (v := v3) (lv' := [(5, .int v3), (0, .ref (eA E 64)), (1, .int a1), (2, .int a2), (3, .int a3), (4, .int a4)]) C 5 dX6_read_47 5 rfl (by rw [ev3]; rfl) (by decide) rfl ?_
      refine j_goto C 26 dX6_read_50 (by decide) ?_
      exact j_sub (lv' := [(0, .ref (eA E 64)), (1, .int a1), (2, .int a2), (3, .int a3), (4, .int a4), (5, .int v3)]) [1, 2, 3, 4, 5, 0] rfl h) (by
    intro x5 x6 x7 σ h
    refine j_iload C 7 dX6_read_62 7 rfl ?_
    refine j_iload C 4 dX6_read_64 4 rfl ?_
    refine j_icmp_ge C 260 dX6_read_66 (by decide) (fun c4 => ?_) (fun c4 => ?_)
    · replace h := h.1 c4
      exact j_sub (lv' := [(0, .ref (eA E 64)), (5, .int x5), (6, .int x6)]) [0, 5, 6] rfl h
    · replace h := h.2 c4
      refine j_iload C 5 dX6_read_69 5 rfl ?_
      refine j_if_ne C 260 dX6_read_71 (by decide) (fun c5 => ?_) (fun c5 => ?_)
      · replace h := h.1 c5
        exact j_sub (lv' := [(0, .ref (eA E 64)), (5, .int x5), (6, .int x6)]) [0, 5, 6] rfl h
      · replace h := h.2 c5
        refine j_iconst (v := (0 : Int32)) C dX6_read_74 (by decide) ?_
        refine j_istore (lv' := [(8, .int (0 : Int32)), (0, .ref (eA E 64)), (1, .int a1), (2, .int a2), (3, .int a3), (4, .int a4), (5, .int x5), (6, .int x6), (7, .int x7)]) C 8 dX6_read_75 (by decide) rfl ?_
        exact j_sub (lv' := [(0, .ref (eA E 64)), (1, .int a1), (2, .int a2), (3, .int a3), (4, .int a4), (5, .int x5), (6, .int x6), (7, .int x7), (8, .int (0 : Int32))]) [1, 2, 3, 4, 5, 6, 7, 8, 0] rfl h) (by
    intro x5 x6 x7 x8 σ h
    refine j_iload C 8 dX6_read_77 8 rfl ?_
    refine j_iconst (v := (2 : Int32)) C dX6_read_79 (by decide) ?_
    refine j_icmp_ge C 164 dX6_read_80 (by decide) (fun c6 => ?_) (fun c6 => ?_)
    · replace h := h.1 c6
      exact j_sub (lv' := [(0, .ref (eA E 64)), (1, .int a1), (2, .int a2), (3, .int a3), (4, .int a4), (5, .int x5), (6, .int x6), (7, .int x7)]) [0, 1, 2, 3, 4, 5, 6, 7] rfl h
    · replace h := h.2 c6
      refine j_iload C 5 dX6_read_83 5 rfl ?_
      refine j_if_ne C 164 dX6_read_85 (by decide) (fun c7 => ?_) (fun c7 => ?_)
      · replace h := h.1 c7
        exact j_sub (lv' := [(0, .ref (eA E 64)), (1, .int a1), (2, .int a2), (3, .int a3), (4, .int a4), (5, .int x5), (6, .int x6), (7, .int x7)]) [0, 1, 2, 3, 4, 5, 6, 7] rfl h
      · replace h := h.2 c7
        refine j_iload_n C 3 dX6_read_88 rfl 3 rfl ?_
        refine j_i2l C dX6_read_89 rfl ?_
        refine j_iconst (v := (2 : Int32)) C dX6_read_90 (by decide) ?_
        refine j_iload C 7 dX6_read_91 7 rfl ?_
        refine j_imul C dX6_read_93 ?_
        refine j_i2l C dX6_read_94 rfl ?_
        refine j_ladd C dX6_read_95 ?_
        refine j_iload C 8 dX6_read_96 8 rfl ?_
        refine j_i2l C dX6_read_98 rfl ?_
        refine j_ladd C dX6_read_99 ?_
        refine j_topl (fun v8 ev8 => ?_)
        replace h := h v8 ev8
        refine j_lstore (lv' := [(9, .long v8), (0, .ref (eA E 64)), (1, .int a1), (2, .int a2), (3, .int a3), (4, .int a4), (5, .int x5), (6, .int x6), (7, .int x7), (8, .int x8)]) C 9 dX6_read_100 (by decide) rfl ?_
        refine j_aload_n C 0 dX6_read_102 rfl 1 rfl ?_
        refine j_getR C 74 64 26 rfl rfl rfl in_X6_read_X6 (by decide) (by decide +kernel) dX6_read_103 ?_
        refine j_iload_n C 1 dX6_read_106 rfl 2 rfl ?_
        refine j_iald C 74 rfl dX6_read_107 h.1 ?_
        replace h := h.2
        refine j_bipush (v := (-4 : Int32)) C dX6_read_108 (by decide) ?_
        refine j_icmp_ne C 117 dX6_read_110 (by decide) (fun c9 => ?_) (fun c9 => ?_)
        · replace h := h.1 c9
          refine j_aload_n C 0 dX6_read_117 rfl 1 rfl ?_
          refine j_getR C 74 64 26 rfl rfl rfl in_X6_read_X6 (by decide) (by decide +kernel) dX6_read_118 ?_
          refine j_iload_n C 1 dX6_read_121 rfl 2 rfl ?_
          refine j_iald C 74 rfl dX6_read_122 h.1 ?_
          replace h := h.2
          refine j_iload_n C 2 dX6_read_123 rfl 3 rfl ?_
          refine j_icmp_eq C 131 dX6_read_124 (by decide) (fun c10 => ?_) (fun c10 => ?_)
          · replace h := h.1 c10
            refine j_lload C 9 dX6_read_131 0 rfl ?_
            refine j_lconst (v := (0 : Int64)) C dX6_read_133 (by decide) ?_
            refine j_lcmp C dX6_read_134 ?_
            refine j_if_lt C 151 dX6_read_135 (by decide) (fun c11 => ?_) (fun c11 => ?_)
            · replace h := h.1 c11
              exact j_sub (lv' := [(0, .ref (eA E 64)), (1, .int a1), (2, .int a2), (3, .int a3), (4, .int a4), (6, .int x6), (7, .int x7), (8, .int x8)]) [1, 2, 3, 4, 5, 7, 8, 9] rfl h
            · replace h := h.2 c11
              refine j_lload C 9 dX6_read_138 0 rfl ?_
              refine j_aload_n C 0 dX6_read_140 rfl 1 rfl ?_
              refine j_getR C 75 64 27 rfl rfl rfl in_X6_read_X6 (by decide) (by decide +kernel) dX6_read_141 ?_
              refine j_iload_n C 1 dX6_read_144 rfl 2 rfl ?_
              refine j_iald C 75 rfl dX6_read_145 h.1 ?_
              replace h := h.2
              refine j_i2l C dX6_read_146 rfl ?_
              refine j_lcmp C dX6_read_147 ?_
              refine j_if_lt C 155 dX6_read_148 (by decide) (fun c12 => ?_) (fun c12 => ?_)
              · replace h := h.1 c12
                refine j_iconst (v := (0 : Int32)) C dX6_read_155 (by decide) ?_
                exact j_sub (lv' := [(0, .ref (eA E 64)), (1, .int a1), (2, .int a2), (3, .int a3), (4, .int a4), (6, .int x6), (7, .int x7), (8, .int x8)]) [1, 2, 3, 4, 5, 7, 8, 9] rfl h
              · replace h := h.2 c12
                exact j_sub (lv' := [(0, .ref (eA E 64)), (1, .int a1), (2, .int a2), (3, .int a3), (4, .int a4), (6, .int x6), (7, .int x7), (8, .int x8)]) [1, 2, 3, 4, 5, 7, 8, 9] rfl h
          · replace h := h.2 c10
            refine j_iconst (v := (3 : Int32)) C dX6_read_127 (by decide) ?_
            refine j_goto C 156 dX6_read_128 (by decide) ?_
            exact j_sub (lv' := [(0, .ref (eA E 64)), (1, .int a1), (2, .int a2), (3, .int a3), (4, .int a4), (6, .int x6), (7, .int x7), (8, .int x8)]) [1, 2, 3, 4, 5, 7, 8, 9] rfl h
        · replace h := h.2 c9
          refine j_iconst (v := (1 : Int32)) C dX6_read_113 (by decide) ?_
          refine j_goto C 156 dX6_read_114 (by decide) ?_
          exact j_sub (lv' := [(0, .ref (eA E 64)), (1, .int a1), (2, .int a2), (3, .int a3), (4, .int a4), (6, .int x6), (7, .int x7), (8, .int x8)]) [1, 2, 3, 4, 5, 7, 8, 9] rfl h) (by
    intro x6 x7 x8 σ h
    refine j_iconst (v := (2 : Int32)) C dX6_read_151 (by decide) ?_
    refine j_goto C 156 dX6_read_152 (by decide) ?_
    exact j_sub (lv' := [(0, .ref (eA E 64)), (1, .int a1), (2, .int a2), (3, .int a3), (4, .int a4), (6, .int x6), (7, .int x7), (8, .int x8)]) [0, 1, 2, 3, 4, 5, 6, 7] rfl h) (by
    intro x6 x7 x8 s0 σ h
    refine j_istore (lv' := [(5, .int s0), (0, .ref (eA E 64)), (1, .int a1), (2, .int a2), (3, .int a3), (4, .int a4), (6, .int x6), (7, .int x7), (8, .int x8)]) C 5 dX6_read_156 (by decide) rfl ?_
    obtain ⟨v13, ev13⟩ : ∃ y : Int32, y = x8 + (1 : Int32) := ⟨_, rfl⟩
    replace h := h v13 ev13
    refine j_iinc (v := v13) (lv' := [(8, .int v13), (5, .int s0), (0, .ref (eA E 64)), (1, .int a1), (2, .int a2), (3, .int a3), (4, .int a4), (6, .int x6), (7, .int x7)]) C 8 dX6_read_158 8 rfl (by rw [ev13]; rfl) (by decide) rfl ?_
    refine j_goto C 77 dX6_read_161 (by decide) ?_
    exact j_sub (lv' := [(0, .ref (eA E 64)), (1, .int a1), (2, .int a2), (3, .int a3), (4, .int a4), (5, .int s0), (6, .int x6), (7, .int x7), (8, .int v13)]) [2, 3, 4, 5, 6, 1, 7, 8, 0] rfl h) (by
    intro x5 x6 x7 σ h
    refine j_iload C 5 dX6_read_164 5 rfl ?_
    refine j_if_ne C 254 dX6_read_166 (by decide) (fun c14 => ?_) (fun c14 => ?_)
    · replace h := h.1 c14
      exact j_sub (lv' := [(0, .ref (eA E 64)), (1, .int a1), (2, .int a2), (3, .int a3), (4, .int a4), (5, .int x5), (6, .int x6), (7, .int x7)]) [0, 1, 2, 3, 4, 5, 6, 7] rfl h
    · replace h := h.2 c14
      refine j_bipush (v := (40 : Int32)) C dX6_read_169 (by decide) ?_
      refine j_iload_n C 1 dX6_read_171 rfl 1 rfl ?_
      refine j_imul C dX6_read_172 ?_
      refine j_iload_n C 3 dX6_read_173 rfl 3 rfl ?_
      refine j_iadd C dX6_read_174 ?_
      refine j_iconst (v := (2 : Int32)) C dX6_read_175 (by decide) ?_
      refine j_iload C 7 dX6_read_176 7 rfl ?_
      refine j_imul C dX6_read_178 ?_
      refine j_iadd C dX6_read_179 ?_
      refine j_topi (fun v15 ev15 => ?_)
      replace h := h v15 ev15
      refine j_istore (lv' := [(8, .int v15), (0, .ref (eA E 64)), (1, .int a1), (2, .int a2), (3, .int a3), (4, .int a4), (5, .int x5), (6, .int x6), (7, .int x7)]) C 8 dX6_read_180 (by decide) rfl ?_
      refine j_aload_n C 0 dX6_read_182 rfl 1 rfl ?_
      refine j_aload_n C 0 dX6_read_183 rfl 1 rfl ?_
      refine j_getR C 76 64 28 rfl rfl rfl in_X6_read_X6 (by decide) (by decide +kernel) dX6_read_184 ?_
      refine j_iload C 8 dX6_read_187 0 rfl ?_
      refine j_iald C 76 rfl dX6_read_189 h.1 ?_
      replace h := h.2
      refine j_iconst (v := (1 : Int32)) C dX6_read_190 (by decide) ?_
      refine j_aload_n C 0 dX6_read_191 rfl 1 rfl ?_
      refine j_getR C 76 64 28 rfl rfl rfl in_X6_read_X6 (by decide) (by decide +kernel) dX6_read_192 ?_
      refine j_iload C 8 dX6_read_195 0 rfl ?_
      refine j_iconst (v := (1 : Int32)) C dX6_read_197 (by decide) ?_
      refine j_iadd C dX6_read_198 ?_
      refine j_iald C 76 rfl dX6_read_199 h.1 ?_
      replace h := h.2
      refine j_callVI (As := [.int (σ.1 76 (v15).toNatClampNeg), .int (1 : Int32), .int (σ.1 76 ((v15 + (1 : Int32))).toNatClampNeg)]) (rest := []) C 64 (c_X6_alter h) (cwV 3 C.2.2.2.2.2.1 gX6_read_X6_alter rfl rfl rfl hdX6_alter ⟨Nat.le_of_ble_eq_true rfl, Nat.le_of_ble_eq_true rfl⟩) rfl rfl rfl rfl (Nat.le_of_ble_eq_true rfl) dX6_read_200 (fun r17 σ16 h => ?_)
      refine j_iconst (v := (-1 : Int32)) C dX6_read_203 (by decide) ?_
      refine j_icmp_eq C 215 dX6_read_204 (by decide) (fun c18 => ?_) (fun c18 => ?_)
      · replace h := h.1 c18
        exact j_sub (lv' := [(0, .ref (eA E 64)), (7, .int x7)]) [1, 8] rfl h
      · replace h := h.2 c18
        refine j_aload_n C 0 dX6_read_207 rfl 1 rfl ?_
        refine j_iconst (v := (1 : Int32)) C dX6_read_208 (by decide) ?_
        refine j_callVI (As := [.int (1 : Int32)]) (rest := []) C 64 (c_X6_reigns h) (cwV 1 C.2.2.2.2.2.1 gX6_read_X6_reigns rfl rfl rfl hdX6_reigns ⟨Nat.le_of_ble_eq_true rfl, Nat.le_of_ble_eq_true rfl⟩) rfl rfl rfl rfl (Nat.le_of_ble_eq_true rfl) dX6_read_209 (fun r20 σ19 h => ?_)
        refine j_if_ge C 251 dX6_read_212 (by decide) (fun c21 => ?_) (fun c21 => ?_)
        · replace h := h.1 c21
          obtain ⟨v22, ev22⟩ : ∃ y : Int32, y = x6 + (1 : Int32) := ⟨_, rfl⟩
          replace h := h v22 ev22
          refine j_iinc (v := v22) (lv' := [(6, .int v22), (8, .int v15), (0, .ref (eA E 64)), (1, .int a1), (2, .int a2), (3, .int a3), (4, .int a4), (5, .int x5), (7, .int x7)]) C 6 dX6_read_251 7 rfl (by rw [ev22]; rfl) (by decide) rfl ?_
          exact j_sub (lv' := [(0, .ref (eA E 64)), (1, .int a1), (2, .int a2), (3, .int a3), (4, .int a4), (5, .int x5), (6, .int v22), (7, .int x7)]) [2, 3, 4, 5, 6, 7, 0, 8] rfl h
        · replace h := h.2 c21
          exact j_sub (lv' := [(0, .ref (eA E 64)), (7, .int x7)]) [1, 8] rfl h) (by
    intro x7 σ h
    refine j_iconst (v := (0 : Int32)) C dX6_read_215 (by decide) ?_
    refine j_istore (lv' := [(9, .int (0 : Int32)), (0, .ref (eA E 64)), (7, .int x7)]) C 9 dX6_read_216 (by decide) rfl ?_
    exact j_sub (lv' := [(0, .ref (eA E 64)), (7, .int x7), (9, .int (0 : Int32))]) [1, 2, 0] rfl h) (by
    intro x7 x9 σ h
    refine j_iload C 9 dX6_read_218 2 rfl ?_
    refine j_bipush (v := (49 : Int32)) C dX6_read_220 (by decide) ?_
    refine j_icmp_ge C 245 dX6_read_222 (by decide) (fun c23 => ?_) (fun c23 => ?_)
    · replace h := h.1 c23
      refine j_bipush (v := (-20 : Int32)) C dX6_read_245 (by decide) ?_
      refine j_iload C 7 dX6_read_247 1 rfl ?_
      refine j_isub C dX6_read_249 ?_
      exact j_iret C dX6_read_250 h
    · replace h := h.2 c23
      refine j_aload_n C 0 dX6_read_225 rfl 0 rfl ?_
      refine j_getR C 65 64 0 rfl rfl rfl in_X6_read_X6 (by decide) (by decide +kernel) dX6_read_226 ?_
      refine j_iload C 9 dX6_read_229 2 rfl ?_
      refine j_aload_n C 0 dX6_read_231 rfl 0 rfl ?_
      refine j_getR C 77 64 30 rfl rfl rfl in_X6_read_X6 (by decide) (by decide +kernel) dX6_read_232 ?_
      refine j_iload C 9 dX6_read_235 2 rfl ?_
      refine j_iald C 77 rfl dX6_read_237 h.1 ?_
      replace h := h.2
      refine j_iast C 65 rfl dX6_read_238 h.1 ?_
      replace h := h.2
      refine j_mem (fun σ24 eσ24 => ?_)
      replace h := h σ24 eσ24
      obtain ⟨v25, ev25⟩ : ∃ y : Int32, y = x9 + (1 : Int32) := ⟨_, rfl⟩
      replace h := h v25 ev25
      refine j_iinc (v := v25) (lv' := [(9, .int v25), (0, .ref (eA E 64)), (7, .int x7)]) C 9 dX6_read_239 2 rfl (by rw [ev25]; rfl) (by decide) rfl ?_
      refine j_goto C 218 dX6_read_242 (by decide) ?_
      exact j_sub (lv' := [(0, .ref (eA E 64)), (7, .int x7), (9, .int v25)]) [1, 2, 0] rfl h) (by
    intro x5 x6 x7 σ h
    obtain ⟨v26, ev26⟩ : ∃ y : Int32, y = x7 + (1 : Int32) := ⟨_, rfl⟩
    replace h := h v26 ev26
    refine j_iinc (v := v26) (lv' := [(7, .int v26), (0, .ref (eA E 64)), (1, .int a1), (2, .int a2), (3, .int a3), (4, .int a4), (5, .int x5), (6, .int x6)]) C 7 dX6_read_254 7 rfl (by rw [ev26]; rfl) (by decide) rfl ?_
    refine j_goto C 62 dX6_read_257 (by decide) ?_
    exact j_sub (lv' := [(0, .ref (eA E 64)), (1, .int a1), (2, .int a2), (3, .int a3), (4, .int a4), (5, .int x5), (6, .int x6), (7, .int v26)]) [1, 2, 3, 4, 5, 6, 7, 0] rfl h) (by
    intro x5 x6 σ h
    refine j_aload_n C 0 dX6_read_260 rfl 0 rfl ?_
    refine j_iload C 5 dX6_read_261 1 rfl ?_
    refine j_put C 64 29 rfl rfl rfl in_X6_read_X6 tyX6 tyX6_ok nmX6 (by decide) (by decide +kernel) rfl rfl rfl rfl dX6_read_263 ?_
    refine j_mem (fun σ27 eσ27 => ?_)
    replace h := h σ27 eσ27
    refine j_iload C 6 dX6_read_266 2 rfl ?_
    exact j_iret C dX6_read_268 h)
  refine j_iload_n C 1 dX6_read_0 rfl 1 rfl ?_
  refine j_iload_n C 2 dX6_read_1 rfl 2 rfl ?_
  refine j_callSI (As := [.int a1, .int a2]) (rest := []) C (c_X6_isSheet h) (va_cwS 2 C.2.2.2.2.2.1 gX6_read_X6_isSheet rfl rfl rfl hdX6_isSheet.2 ⟨Nat.le_of_ble_eq_true rfl, Nat.le_of_ble_eq_true rfl⟩) rfl rfl (Nat.le_of_ble_eq_true rfl) dX6_read_2 (fun r29 σ28 h => ?_)
  refine j_if_eq C 21 dX6_read_5 (by decide) (fun c30 => ?_) (fun c30 => ?_)
  · replace h := h.1 c30
    refine j_iconst (v := (-1 : Int32)) C dX6_read_21 (by decide) ?_
    exact j_iret C dX6_read_22 h
  · replace h := h.2 c30
    refine j_iload C 4 dX6_read_8 4 rfl ?_
    refine j_i2l C dX6_read_10 rfl ?_
    refine j_lconst (v := (0 : Int64)) C dX6_read_11 (by decide) ?_
    refine j_ldc2 C (20 : Int64) dX6_read_12 (by decide +kernel) ?_
    refine j_callSI (As := [.long (a4).toInt64, .long (0 : Int64), .long (20 : Int64)]) (rest := []) C (c_X6_in h) (va_cwS 3 C.2.2.2.2.2.1 gX6_read_X6_in rfl rfl rfl hdX6_in.2 ⟨Nat.le_of_ble_eq_true rfl, Nat.le_of_ble_eq_true rfl⟩) rfl rfl (Nat.le_of_ble_eq_true rfl) dX6_read_15 (fun r32 σ31 h => ?_)
    refine j_if_ne C 23 dX6_read_18 (by decide) (fun c33 => ?_) (fun c33 => ?_)
    · replace h := h.1 c33
      refine j_iconst (v := (0 : Int32)) C dX6_read_23 (by decide) ?_
      refine j_istore (lv' := [(5, .int (0 : Int32)), (0, .ref (eA E 64)), (1, .int a1), (2, .int a2), (3, .int a3), (4, .int a4)]) C 5 dX6_read_24 (by decide) rfl ?_
      exact j_sub (lv' := [(0, .ref (eA E 64)), (1, .int a1), (2, .int a2), (3, .int a3), (4, .int a4), (5, .int (0 : Int32))]) [1, 2, 3, 4, 5, 0] rfl h
    · replace h := h.2 c33
      refine j_iconst (v := (-1 : Int32)) C dX6_read_21 (by decide) ?_
      exact j_iret C dX6_read_22 h
def wp_X6_torn (σ : Mem) (Q : Int32 → Mem → Prop) : Prop :=
  Q (σ.1 64 29) σ
theorem in_X6_torn_X6 : ∀ w ∈ wsX60, w ∈ wsX6_torn := fun _ h => List.mem_cons_of_mem _ (List.mem_append_right _ h)
def rmX6_torn : Room := { frames := 0, cells := 0, slots := 0, locals := 0 }
theorem hdX6_torn : yX6_torn.cls = RX6 ∧ yX6_torn.cls ≠ "java/lang/invoke/MethodHandle" ∧ yX6_torn.cls ≠ "java/lang/invoke/VarHandle" ∧ (parseMethodDescriptor yX6_torn.desc).map (fun d => d.parameters.length) = some 0 := by decide +kernel
set_option maxHeartbeats 4000000 in
set_option maxRecDepth 100000 in
theorem c_X6_torn {l : Launch} {E : EE}   {σ : Mem} {Q : Int32 → Mem → Prop} (h : wp_X6_torn  σ Q) : CtI l yX6_torn wsX6_torn rmX6_torn E [.ref (eA E 64)] σ Q := by
  refine metI (cc := cX6_torn) (nL := 1) (ret := (some .int)) (lv := [(0, .ref (eA E 64))]) (by decide) rfl (Nat.le_of_ble_eq_true rfl) rfl ?_
  intro p e s m args below meth c C
  unfold wp_X6_torn at h
  refine j_aload_n C 0 dX6_torn_0 rfl 0 rfl ?_
  refine j_getI C 64 29 rfl rfl rfl in_X6_torn_X6 (by decide) (by decide +kernel) dX6_torn_1 ?_
  exact j_iret C dX6_torn_4 h
def wp_X6_count (a1 : Int32) (σ : Mem) (Q : Int32 → Mem → Prop) : Prop :=
  wp_X6_starts σ (fun σ1 => (a1 = (0 : Int32) → Q (σ1.1 65 ((36 : Int32)).toNatClampNeg) σ1) ∧ (a1 = (1 : Int32) → wp_X6_flag ((σ1.1 67 ((0 : Int32)).toNatClampNeg)) σ1 (fun r5 σ4 => wp_X6_flag ((σ4.1 67 ((1 : Int32)).toNatClampNeg)) σ4 (fun r7 σ6 => Q (r5 + r7) σ6))) ∧ (a1 = (2 : Int32) → Q (σ1.1 64 10) σ1) ∧ (a1 = (3 : Int32) → (¬ (σ1.1 74 ((0 : Int32)).toNatClampNeg) = (-4 : Int32) → Q (σ1.1 75 ((0 : Int32)).toNatClampNeg) σ1) ∧ ((σ1.1 74 ((0 : Int32)).toNatClampNeg) = (-4 : Int32) → Q (-4 : Int32) σ1)) ∧ (a1 = (4 : Int32) → wp_X6_allOf (1 : Int32) σ1 (fun r13 σ12 => Q r13 σ12)) ∧ (a1 = (5 : Int32) → wp_X6_allOf (3 : Int32) σ1 (fun r16 σ15 => Q r16 σ15)) ∧ (¬ a1 = (0 : Int32) → ¬ a1 = (1 : Int32) → ¬ a1 = (2 : Int32) → ¬ a1 = (3 : Int32) → ¬ a1 = (4 : Int32) → ¬ a1 = (5 : Int32) → Q (-1 : Int32) σ1))
theorem in_X6_count_X6 : ∀ w ∈ wsX60, w ∈ wsX6_count := fun _ h => List.mem_cons_of_mem _ (List.mem_append_right _ h)
def rmX6_count : Room := { frames := 2, cells := 0, slots := 0, locals := 45 }
theorem hdX6_count : yX6_count.cls = RX6 ∧ yX6_count.cls ≠ "java/lang/invoke/MethodHandle" ∧ yX6_count.cls ≠ "java/lang/invoke/VarHandle" ∧ (parseMethodDescriptor yX6_count.desc).map (fun d => d.parameters.length) = some 1 := by decide +kernel
set_option maxHeartbeats 4000000 in
set_option maxRecDepth 100000 in
theorem c_X6_count {l : Launch} {E : EE} {a1 : Int32}  {σ : Mem} {Q : Int32 → Mem → Prop} (h : wp_X6_count a1 σ Q) : CtI l yX6_count wsX6_count rmX6_count E [.ref (eA E 64), .int a1] σ Q := by
  refine metI (cc := cX6_count) (nL := 2) (ret := (some .int)) (lv := [(0, .ref (eA E 64)), (1, .int a1)]) (by decide) rfl (Nat.le_of_ble_eq_true rfl) rfl ?_
  intro p e s m args below meth c C
  unfold wp_X6_count at h
  refine j_aload_n C 0 dX6_count_0 rfl 0 rfl ?_
  refine j_callVV (As := []) (rest := []) C 64 (c_X6_starts h) (cwV 0 C.2.2.2.2.2.1 gX6_count_X6_starts rfl rfl rfl hdX6_starts ⟨Nat.le_of_ble_eq_true rfl, Nat.le_of_ble_eq_true rfl⟩) rfl rfl rfl rfl (Nat.le_of_ble_eq_true rfl) dX6_count_1 (fun σ1 h => ?_)
  refine j_iload_n C 1 dX6_count_4 rfl 1 rfl ?_
  by_cases c2 : a1 = (0 : Int32)
  · replace h := h.1 c2
    refine j_tabIn (off := 39) C 44 dX6_count_5 (0 : Int32) c2 (by decide) (by decide) (by decide) (by decide) ?_
    refine j_aload_n C 0 dX6_count_44 rfl 0 rfl ?_
    refine j_getR C 65 64 0 rfl rfl rfl in_X6_count_X6 (by decide) (by decide +kernel) dX6_count_45 ?_
    refine j_bipush (v := (36 : Int32)) C dX6_count_48 (by decide) ?_
    refine j_iald C 65 rfl dX6_count_50 (in_lit rfl) ?_
    exact j_iret C dX6_count_51 h
  by_cases c3 : a1 = (1 : Int32)
  · replace h := h.2.1 c3
    refine j_tabIn (off := 47) C 52 dX6_count_5 (1 : Int32) c3 (by decide) (by decide) (by decide) (by decide) ?_
    refine j_aload_n C 0 dX6_count_52 rfl 0 rfl ?_
    refine j_getR C 67 64 2 rfl rfl rfl in_X6_count_X6 (by decide) (by decide +kernel) dX6_count_53 ?_
    refine j_iconst (v := (0 : Int32)) C dX6_count_56 (by decide) ?_
    refine j_zald C 67 rfl dX6_count_57 (in_lit rfl) ?_
    refine j_callSI (As := [.int (σ1.1 67 ((0 : Int32)).toNatClampNeg)]) (rest := []) C (c_X6_flag h) (va_cwS 1 C.2.2.2.2.2.1 gX6_count_X6_flag rfl rfl rfl hdX6_flag.2 ⟨Nat.le_of_ble_eq_true rfl, Nat.le_of_ble_eq_true rfl⟩) rfl rfl (Nat.le_of_ble_eq_true rfl) dX6_count_58 (fun r5 σ4 h => ?_)
    refine j_aload_n C 0 dX6_count_61 rfl 0 rfl ?_
    refine j_getR C 67 64 2 rfl rfl rfl in_X6_count_X6 (by decide) (by decide +kernel) dX6_count_62 ?_
    refine j_iconst (v := (1 : Int32)) C dX6_count_65 (by decide) ?_
    refine j_zald C 67 rfl dX6_count_66 (in_lit rfl) ?_
    refine j_callSI (As := [.int (σ4.1 67 ((1 : Int32)).toNatClampNeg)]) (rest := [.int r5]) C (c_X6_flag h) (va_cwS 1 C.2.2.2.2.2.1 gX6_count_X6_flag rfl rfl rfl hdX6_flag.2 ⟨Nat.le_of_ble_eq_true rfl, Nat.le_of_ble_eq_true rfl⟩) rfl rfl (Nat.le_of_ble_eq_true rfl) dX6_count_67 (fun r7 σ6 h => ?_)
    refine j_iadd C dX6_count_70 ?_
    exact j_iret C dX6_count_71 h
  by_cases c8 : a1 = (2 : Int32)
  · replace h := h.2.2.1 c8
    refine j_tabIn (off := 67) C 72 dX6_count_5 (2 : Int32) c8 (by decide) (by decide) (by decide) (by decide) ?_
    refine j_aload_n C 0 dX6_count_72 rfl 0 rfl ?_
    refine j_getI C 64 10 rfl rfl rfl in_X6_count_X6 (by decide) (by decide +kernel) dX6_count_73 ?_
    exact j_iret C dX6_count_76 h
  by_cases c9 : a1 = (3 : Int32)
  · replace h := h.2.2.2.1 c9
    refine j_tabIn (off := 72) C 77 dX6_count_5 (3 : Int32) c9 (by decide) (by decide) (by decide) (by decide) ?_
    refine j_aload_n C 0 dX6_count_77 rfl 0 rfl ?_
    refine j_getR C 74 64 26 rfl rfl rfl in_X6_count_X6 (by decide) (by decide +kernel) dX6_count_78 ?_
    refine j_iconst (v := (0 : Int32)) C dX6_count_81 (by decide) ?_
    refine j_iald C 74 rfl dX6_count_82 (in_lit rfl) ?_
    refine j_bipush (v := (-4 : Int32)) C dX6_count_83 (by decide) ?_
    refine j_icmp_ne C 93 dX6_count_85 (by decide) (fun c10 => ?_) (fun c10 => ?_)
    · replace h := h.1 c10
      refine j_aload_n C 0 dX6_count_93 rfl 0 rfl ?_
      refine j_getR C 75 64 27 rfl rfl rfl in_X6_count_X6 (by decide) (by decide +kernel) dX6_count_94 ?_
      refine j_iconst (v := (0 : Int32)) C dX6_count_97 (by decide) ?_
      refine j_iald C 75 rfl dX6_count_98 (in_lit rfl) ?_
      exact j_iret C dX6_count_99 h
    · replace h := h.2 c10
      refine j_bipush (v := (-4 : Int32)) C dX6_count_88 (by decide) ?_
      refine j_goto C 99 dX6_count_90 (by decide) ?_
      exact j_iret C dX6_count_99 h
  by_cases c11 : a1 = (4 : Int32)
  · replace h := h.2.2.2.2.1 c11
    refine j_tabIn (off := 95) C 100 dX6_count_5 (4 : Int32) c11 (by decide) (by decide) (by decide) (by decide) ?_
    refine j_aload_n C 0 dX6_count_100 rfl 0 rfl ?_
    refine j_iconst (v := (1 : Int32)) C dX6_count_101 (by decide) ?_
    refine j_callVI (As := [.int (1 : Int32)]) (rest := []) C 64 (c_X6_allOf h) (cwV 1 C.2.2.2.2.2.1 gX6_count_X6_allOf rfl rfl rfl hdX6_allOf ⟨Nat.le_of_ble_eq_true rfl, Nat.le_of_ble_eq_true rfl⟩) rfl rfl rfl rfl (Nat.le_of_ble_eq_true rfl) dX6_count_102 (fun r13 σ12 h => ?_)
    exact j_iret C dX6_count_105 h
  by_cases c14 : a1 = (5 : Int32)
  · replace h := h.2.2.2.2.2.1 c14
    refine j_tabIn (off := 101) C 106 dX6_count_5 (5 : Int32) c14 (by decide) (by decide) (by decide) (by decide) ?_
    refine j_aload_n C 0 dX6_count_106 rfl 0 rfl ?_
    refine j_iconst (v := (3 : Int32)) C dX6_count_107 (by decide) ?_
    refine j_callVI (As := [.int (3 : Int32)]) (rest := []) C 64 (c_X6_allOf h) (cwV 1 C.2.2.2.2.2.1 gX6_count_X6_allOf rfl rfl rfl hdX6_allOf ⟨Nat.le_of_ble_eq_true rfl, Nat.le_of_ble_eq_true rfl⟩) rfl rfl rfl rfl (Nat.le_of_ble_eq_true rfl) dX6_count_108 (fun r16 σ15 h => ?_)
    exact j_iret C dX6_count_111 h
  replace h := h.2.2.2.2.2.2 c2 c3 c8 c9 c11 c14
  refine j_tabOut C 112 dX6_count_5 (tab_out (lo := 0) (hi := 5) (fun v h1 h2 => by rcases (show v = 0 ∨ v = 1 ∨ v = 2 ∨ v = 3 ∨ v = 4 ∨ v = 5 by omega) with rfl | rfl | rfl | rfl | rfl | rfl <;> assumption)) (by decide) ?_
  refine j_iconst (v := (-1 : Int32)) C dX6_count_112 (by decide) ?_
  exact j_iret C dX6_count_113 h
