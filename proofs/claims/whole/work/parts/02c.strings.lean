/-! the texts: the JDK's own length() and charAt() over the seven constants -/
section JS
variable {E : EE} {p : Program} {l : Launch} {e : Env} {R : Room} {s : State} {m : MethodId} {args : Array Value} {below : List Frame} {meth : Method} {c : Code} {Qf : State → Prop} {nL pc : Nat} {lv : List (Nat × Value)} {stk rest : List Value} {σ : Mem} {own : String} {ws : List Cond} {cc : ByteArray} {ret : Option FieldType}
theorem j_tret {ty : FieldType} (C : Cx E p s m args meth c own ws cc nL (some ty)) {Q : Int32 → Mem → Prop} {v : Int32} (hdg : decode cc pc = .ok (.ireturn, 1)) (hn : narrow ty (.int v) = .int v) (hq : Q v σ) : J E p l e R s m args below meth c (QI E below args s Q) nL pc lv [.int v] σ := by
  obtain ⟨hx, hb, hr, hml, hown, hts, hlocks, hG, hA⟩ := C
  intro H locs ls hP hS hl
  exact W.zret hx hb hr hn (fun t ht hW => ⟨⟨v, σ, rfl, hq, by unfold Bw; rw [ht]; exact hP⟩, hS.F ht⟩) hS.2.2 hdg hlocks
theorem j_ldcS (C : Cx E p s m args meth c RX4 ws cc nL ret) {idx : Nat} (i : Nat) (hi : i < 7) (hidx : sIdx.getD i 0 = idx) (hdg : decode cc pc = .ok (.ldc idx, 2)) (k : J E p l e R s m args below meth c Qf nL (pc + 2) lv (.ref (eX E (10 + i)) :: stk) σ) : J E p l e R s m args below meth c Qf nL pc lv stk σ := by
  obtain ⟨hx, hb, hr, hml, hown, hts, hlocks, hG, hA⟩ := C
  subst hidx
  intro H locs ls hP hS hl
  exact va_ldcS hx hb hown (hG.2.2.2.2.1 i hi) hdg (k H locs ls hP hS hl)
theorem j_sCompact (C : Cx E p s m args meth c own ws cc nL ret) {idx : Nat} (hlink : Cond.fieldLink own idx "java/lang/String" "COMPACT_STRINGS" "Z" ∈ ws) (hdg : decode cc pc = .ok (.getstatic idx, 3)) (k : J E p l e R s m args below meth c Qf nL (pc + 3) lv (.int 1 :: stk) σ) : J E p l e R s m args below meth c Qf nL pc lv stk σ := by
  obtain ⟨hx, hb, hr, hml, hown, hts, hlocks, hG, hA⟩ := C
  intro H locs ls hP hS hl
  exact va_gets hx hb hG.2.2.2.2.2.2.1 hS hown (hts _ hlink) (fun _ h => h) hdg (k H locs ls hP hS hl)
theorem j_sFmt (C : Cx E p s m args meth c own ws cc nL ret) {idx : Nat} (hlink : Cond.fieldLink own idx "jdk/internal/util/Preconditions" "SIOOBE_FORMATTER" "Ljava/util/function/BiFunction;" ∈ ws) (hdg : decode cc pc = .ok (.getstatic idx, 3)) (k : ∀ v : Value, (v = .null ∨ ∃ t, v = .ref t) → J E p l e R s m args below meth c Qf nL (pc + 3) lv (v :: stk) σ) : J E p l e R s m args below meth c Qf nL pc lv stk σ := by
  obtain ⟨hx, hb, hr, hml, hown, hts, hlocks, hG, hA⟩ := C
  intro H locs ls hP hS hl
  rcases hG.2.2.2.2.2.2.2 with hz | ⟨t, hz⟩
  · exact va_gets hx hb hz hS hown (hts _ hlink) (fun _ h => h) hdg (k .null (Or.inl rfl) H locs ls hP hS hl)
  · exact va_gets hx hb hz hS hown (hts _ hlink) (fun _ h => h) hdg (k (.ref t) (Or.inr ⟨t, rfl⟩) H locs ls hP hS hl)
theorem j_sCoder (C : Cx E p s m args meth c own ws cc nL ret) {idx : Nat} (i : Nat) (hi : i < 7) (hlink : Cond.fieldLink own idx "java/lang/String" "coder" "B" ∈ ws) (hdg : decode cc pc = .ok (.getfield idx, 3)) (k : J E p l e R s m args below meth c Qf nL (pc + 3) lv (.int 0 :: stk) σ) : J E p l e R s m args below meth c Qf nL pc lv (.ref (eX E (10 + i)) :: stk) σ := by
  obtain ⟨hx, hb, hr, hml, hown, hts, hlocks, hG, hA⟩ := C
  intro H locs ls hP hS hl
  exact vk_getf hx hb (hG.2.2.2.2.2.1.1 i hi).2.1 hS hown (hts _ hlink) (fun _ h => h) hdg (k H locs ls hP hS hl)
theorem j_sValue (C : Cx E p s m args meth c own ws cc nL ret) {idx : Nat} (i : Nat) (hi : i < 7) (hlink : Cond.fieldLink own idx "java/lang/String" "value" "[B" ∈ ws) (hdg : decode cc pc = .ok (.getfield idx, 3)) (k : J E p l e R s m args below meth c Qf nL (pc + 3) lv (.ref (eX E (20 + i)) :: stk) σ) : J E p l e R s m args below meth c Qf nL pc lv (.ref (eX E (10 + i)) :: stk) σ := by
  obtain ⟨hx, hb, hr, hml, hown, hts, hlocks, hG, hA⟩ := C
  intro H locs ls hP hS hl
  exact vk_getf hx hb (hG.2.2.2.2.2.1.1 i hi).2.2.1 hS hown (hts _ hlink) (fun _ h => h) hdg (k H locs ls hP hS hl)
theorem j_sVlen (C : Cx E p s m args meth c own ws cc nL ret) (i : Nat) (hi : i < 7) (hdg : decode cc pc = .ok (.arraylength, 1)) (k : J E p l e R s m args below meth c Qf nL (pc + 1) lv (.int (nI (sLen.getD i 0)) :: stk) σ) : J E p l e R s m args below meth c Qf nL pc lv (.ref (eX E (20 + i)) :: stk) σ := by
  obtain ⟨hx, hb, hr, hml, hown, hts, hlocks, hG, hA⟩ := C
  intro H locs ls hP hS hl
  exact va_tlen hx hb (hG.2.2.2.2.2.1.1 i hi).2.2.2 hS rfl hdg (k H locs ls hP hS hl)
theorem j_sVald (C : Cx E p s m args meth c own ws cc nL ret) (i : Nat) (hi : i < 7) {q : Int32} (hin : vp_in q (sLen.getD i 0)) (hdg : decode cc pc = .ok (.baload, 1)) (k : J E p l e R s m args below meth c Qf nL (pc + 1) lv (.int ((sByt.getD i []).getD q.toNatClampNeg 0) :: stk) σ) : J E p l e R s m args below meth c Qf nL pc lv (.int q :: .ref (eX E (20 + i)) :: stk) σ := by
  obtain ⟨hx, hb, hr, hml, hown, hts, hlocks, hG, hA⟩ := C
  intro H locs ls hP hS hl
  exact va_tb hx hb (hG.2.2.2.2.2.1.1 i hi).2.2.2 hS hin rfl hdg (k H locs ls hP hS hl)
theorem j_i2c (C : Cx E p s m args meth c own ws cc nL ret) {x v : Int32} (hdg : decode cc pc = .ok (.i2c, 1)) (hv : (x.toUInt32 % 65536).toInt32 = v) (k : J E p l e R s m args below meth c Qf nL (pc + 1) lv (.int v :: stk) σ) : J E p l e R s m args below meth c Qf nL pc lv (.int x :: stk) σ :=
  fun H locs ls hP hS hl => lv_i2c C.1 C.2.1 hdg hv (k H locs ls hP hS hl)
/-- a call whose receiver is one of the texts -/
theorem j_callTI (C : Cx E p s m args meth c own ws cc nL ret) {y : MethodName} {wy : List Cond} {ry : Room} {cy : ByteArray} {idx n maxL : Nat} {rt : Option FieldType} {As : List Value} {Q : Int32 → Mem → Prop} (i : Nat) (hi : i < 7) (hM : CtI l y wy ry E (.ref (eX E (10 + i)) :: As) σ Q) (cw : CallW R s args own "java/lang/String" idx y cy maxL rt wy ry 0 0 n) (hn : As.length = n) (hst : stk = As.reverse ++ .ref (eX E (10 + i)) :: rest) (hro : (rest.map fun v => v.category).sum ≤ 8) (hdg : decode cc pc = .ok (.invokevirtual idx, 3)) (k : ∀ (r : Int32) (τ : Mem), Q r τ → J E p l e R s m args below meth c Qf nL (pc + 3) lv (.int r :: rest) τ) : J E p l e R s m args below meth c Qf nL pc lv stk σ := by
  obtain ⟨hx, hb, hr, hml, hown, hts, hlocks, hG, hA⟩ := C
  intro H locs ls hP hS hl
  have hsz := hS.1
  refine va_calli (va_runV (As := As) (rest := rest) (b := eX E (10 + i)) (ws := wy) ⟨hx, hb, hml, hown, hts⟩ (hM H.size) cw ⟨Pre.blind, vk_recv (adK := fun i => eX E (10 + i)) (i := i) hG.2.2.2.2.2.1 hi hS, fun U hU hW => ⟨rfl, by rw [hU], by rw [hU]; exact hP, by rw [hU]; exact hG.step rfl hS hW, hA⟩⟩ rfl hn hl.1 hst (lv_room hro) hdg ⟨Nat.zero_le _, Nat.zero_le _⟩) hS (fun q _ h => GA_mono hsz q h) (fun q h => GA_mono hsz q h) (fun r τ t H1 locs1 ht hvm hw hB hz1 hk1 hS1 => k r τ hw H1 locs1 ls (by unfold Bw at hB; rw [ht] at hB; exact hB) hS1 hl)
end JS
def rmJ0 : Room := { frames := 0, cells := 0, slots := 0, locals := 0 }
def rmJ0_length : Room := { frames := 1, cells := 0, slots := 0, locals := 20 }
def rmJ0_check : Room := { frames := 1, cells := 0, slots := 0, locals := 22 }
def rmJ1_charAt : Room := { frames := 2, cells := 0, slots := 0, locals := 43 }
def rmJ0_charAt : Room := { frames := 3, cells := 0, slots := 0, locals := 64 }
theorem hdJ0_coder : yJ0_coder_7d493.cls = RJ0 ∧ yJ0_coder_7d493.cls ≠ "java/lang/invoke/MethodHandle" ∧ yJ0_coder_7d493.cls ≠ "java/lang/invoke/VarHandle" ∧ (parseMethodDescriptor yJ0_coder_7d493.desc).map (fun d => d.parameters.length) = some 0 := by decide +kernel
theorem hdJ0_isLatin1 : yJ0_isLatin1_aae02.cls = RJ0 ∧ yJ0_isLatin1_aae02.cls ≠ "java/lang/invoke/MethodHandle" ∧ yJ0_isLatin1_aae02.cls ≠ "java/lang/invoke/VarHandle" ∧ (parseMethodDescriptor yJ0_isLatin1_aae02.desc).map (fun d => d.parameters.length) = some 0 := by decide +kernel
theorem hdJ0_length : yJ0_length_8abf5.cls = "java/lang/String" ∧ yJ0_length_8abf5.cls ≠ "java/lang/invoke/MethodHandle" ∧ yJ0_length_8abf5.cls ≠ "java/lang/invoke/VarHandle" ∧ (parseMethodDescriptor yJ0_length_8abf5.desc).map (fun d => d.parameters.length) = some 0 := by decide +kernel
theorem hdJ0_charAt : yJ0_charAt_5068e.cls = "java/lang/String" ∧ yJ0_charAt_5068e.cls ≠ "java/lang/invoke/MethodHandle" ∧ yJ0_charAt_5068e.cls ≠ "java/lang/invoke/VarHandle" ∧ (parseMethodDescriptor yJ0_charAt_5068e.desc).map (fun d => d.parameters.length) = some 1 := by decide +kernel
theorem hdJ3_check : yJ3_checkIndex_8e157.cls ≠ "java/lang/invoke/MethodHandle" ∧ yJ3_checkIndex_8e157.cls ≠ "java/lang/invoke/VarHandle" ∧ (parseMethodDescriptor yJ3_checkIndex_8e157.desc).map (fun d => d.parameters.length) = some 3 := by decide +kernel
theorem hdJ0_check : yJ0_checkIndex_df160.cls ≠ "java/lang/invoke/MethodHandle" ∧ yJ0_checkIndex_df160.cls ≠ "java/lang/invoke/VarHandle" ∧ (parseMethodDescriptor yJ0_checkIndex_df160.desc).map (fun d => d.parameters.length) = some 2 := by decide +kernel
theorem hdJ1_charAt : yJ1_charAt_3b067.cls ≠ "java/lang/invoke/MethodHandle" ∧ yJ1_charAt_3b067.cls ≠ "java/lang/invoke/VarHandle" ∧ (parseMethodDescriptor yJ1_charAt_3b067.desc).map (fun d => d.parameters.length) = some 2 := by decide +kernel
set_option maxHeartbeats 4000000 in
theorem c_J0_coder {l : Launch} {E : EE} {i : Nat} (hi : i < 7) {σ : Mem} : CtI l yJ0_coder_7d493 wsJ0_coder_7d493 rmJ0 E [.ref (eX E (10 + i))] σ (fun r τ => r = 0 ∧ τ = σ) := by
  refine metI (cc := cJ0_coder_7d493) (nL := 1) (ret := (some .byte)) (lv := [(0, .ref (eX E (10 + i)))]) (by decide) rfl (Nat.le_of_ble_eq_true rfl) rfl ?_
  intro p e s m args below meth c C
  refine j_sCompact C (by decide +kernel) dJ0_coder_7d493_0 ?_
  refine j_if_eq C 13 dJ0_coder_7d493_3 (by decide) (fun h => absurd h (by decide)) (fun _ => ?_)
  refine j_aload_n C 0 dJ0_coder_7d493_6 rfl 0 rfl ?_
  refine j_sCoder C i hi (by decide +kernel) dJ0_coder_7d493_7 ?_
  refine j_goto C 14 dJ0_coder_7d493_10 (by decide) ?_
  exact j_tret C dJ0_coder_7d493_14 rfl ⟨rfl, rfl⟩
set_option maxHeartbeats 4000000 in
theorem c_J0_isLatin1 {l : Launch} {E : EE} {i : Nat} (hi : i < 7) {σ : Mem} : CtI l yJ0_isLatin1_aae02 wsJ0_isLatin1_aae02 rmJ0 E [.ref (eX E (10 + i))] σ (fun r τ => r = 1 ∧ τ = σ) := by
  refine metI (cc := cJ0_isLatin1_aae02) (nL := 1) (ret := (some .boolean)) (lv := [(0, .ref (eX E (10 + i)))]) (by decide) rfl (Nat.le_of_ble_eq_true rfl) rfl ?_
  intro p e s m args below meth c C
  refine j_sCompact C (by decide +kernel) dJ0_isLatin1_aae02_0 ?_
  refine j_if_eq C 17 dJ0_isLatin1_aae02_3 (by decide) (fun h => absurd h (by decide)) (fun _ => ?_)
  refine j_aload_n C 0 dJ0_isLatin1_aae02_6 rfl 0 rfl ?_
  refine j_sCoder C i hi (by decide +kernel) dJ0_isLatin1_aae02_7 ?_
  refine j_if_ne C 17 dJ0_isLatin1_aae02_10 (by decide) (fun h => absurd rfl h) (fun _ => ?_)
  refine j_iconst (v := (1 : Int32)) C dJ0_isLatin1_aae02_13 (by decide) ?_
  refine j_goto C 18 dJ0_isLatin1_aae02_14 (by decide) ?_
  exact j_tret C dJ0_isLatin1_aae02_18 rfl ⟨rfl, rfl⟩
theorem sLen_small : ∀ i, i < 7 → (nI (sLen.getD i 0)) >>> ((0 : Int32) &&& 31) = nI (sLen.getD i 0) := by decide +kernel
theorem sByt_char : ∀ i, i < 7 → ∀ k, k < sLen.getD i 0 → ((((sByt.getD i []).getD k 0 &&& 255).toUInt32 % 65536).toInt32 = (sByt.getD i []).getD k 0 ∧ narrow .char (.int ((sByt.getD i []).getD k 0)) = .int ((sByt.getD i []).getD k 0)) := by decide +kernel
set_option maxHeartbeats 4000000 in
theorem c_J0_length {l : Launch} {E : EE} {i : Nat} (hi : i < 7) {σ : Mem} : CtI l yJ0_length_8abf5 wsJ0_length_8abf5 rmJ0_length E [.ref (eX E (10 + i))] σ (fun r τ => r = nI (sLen.getD i 0) ∧ τ = σ) := by
  refine metI (cc := cJ0_length_8abf5) (nL := 1) (ret := (some .int)) (lv := [(0, .ref (eX E (10 + i)))]) (by decide) rfl (Nat.le_of_ble_eq_true rfl) rfl ?_
  intro p e s m args below meth c C
  refine j_aload_n C 0 dJ0_length_8abf5_0 rfl 0 rfl ?_
  refine j_sValue C i hi (by decide +kernel) dJ0_length_8abf5_1 ?_
  refine j_sVlen C i hi dJ0_length_8abf5_4 ?_
  refine j_aload_n C 0 dJ0_length_8abf5_5 rfl 0 rfl ?_
  refine j_callTI (As := []) (rest := [.int (nI (sLen.getD i 0))]) C i hi (c_J0_coder hi) (cwV 0 C.2.2.2.2.2.1 gJ0_length_8abf5_J0_coder_7d493 rfl rfl rfl hdJ0_coder ⟨Nat.le_of_ble_eq_true rfl, Nat.le_of_ble_eq_true rfl⟩) rfl rfl (Nat.le_of_ble_eq_true rfl) dJ0_length_8abf5_6 (fun r τ h => ?_)
  obtain ⟨rfl, rfl⟩ := h
  refine j_ishr C dJ0_length_8abf5_9 ?_
  exact j_iret C dJ0_length_8abf5_10 ⟨sLen_small i hi, rfl⟩
set_option maxHeartbeats 4000000 in
theorem c_J3_check {l : Launch} {E : EE} {a b : Int32} {v : Value} (hv : v = .null ∨ ∃ t, v = .ref t) (h0 : ¬ a < 0) (h1 : a < b) {σ : Mem} : CtI l yJ3_checkIndex_8e157 wsJ3_checkIndex_8e157 rmJ0 E [.int a, .int b, v] σ (fun _ τ => τ = σ) := by
  have hl : lv_args 0 [.int a, .int b, v] = [(0, .int a), (1, .int b), (2, v)] := rfl
  have hn : (lg_sl [.int a, .int b, v]).length ≤ 3 := by rcases hv with rfl | ⟨t, rfl⟩ <;> exact Nat.le_of_ble_eq_true rfl
  refine metI (cc := cJ3_checkIndex_8e157) (nL := 3) (ret := (some .int)) (lv := [(0, .int a), (1, .int b), (2, v)]) (by decide) rfl hn hl ?_
  intro p e s m args below meth c C
  refine j_iload_n C 0 dJ3_checkIndex_8e157_0 rfl 0 rfl ?_
  refine j_if_lt C 9 dJ3_checkIndex_8e157_1 (by decide) (fun h => absurd h h0) (fun _ => ?_)
  refine j_iload_n C 0 dJ3_checkIndex_8e157_4 rfl 0 rfl ?_
  refine j_iload_n C 1 dJ3_checkIndex_8e157_5 rfl 1 rfl ?_
  refine j_icmp_lt C 16 dJ3_checkIndex_8e157_6 (by decide) (fun _ => ?_) (fun h => absurd h1 h)
  refine j_iload_n C 0 dJ3_checkIndex_8e157_16 rfl 0 rfl ?_
  exact j_iret C dJ3_checkIndex_8e157_17 rfl
set_option maxHeartbeats 4000000 in
theorem c_J0_check {l : Launch} {E : EE} {a b : Int32} (h0 : ¬ a < 0) (h1 : a < b) {σ : Mem} : CtV l yJ0_checkIndex_df160 wsJ0_checkIndex_df160 rmJ0_check E [.int a, .int b] σ (fun τ => τ = σ) := by
  refine metV (cc := cJ0_checkIndex_df160) (nL := 2) (ret := none) (lv := [(0, .int a), (1, .int b)]) (by decide) rfl (Nat.le_of_ble_eq_true rfl) rfl ?_
  intro p e s m args below meth c C
  refine j_iload_n C 0 dJ0_checkIndex_df160_0 rfl 0 rfl ?_
  refine j_iload_n C 1 dJ0_checkIndex_df160_1 rfl 1 rfl ?_
  refine j_sFmt C (by decide +kernel) dJ0_checkIndex_df160_2 (fun v hv => ?_)
  refine j_callSI (As := [.int a, .int b, v]) (rest := []) C (c_J3_check hv h0 h1) (va_cwS 3 C.2.2.2.2.2.1 gJ0_checkIndex_df160_J3_checkIndex_8e157 rfl rfl rfl hdJ3_check ⟨Nat.le_of_ble_eq_true rfl, Nat.le_of_ble_eq_true rfl⟩) rfl rfl (Nat.le_of_ble_eq_true rfl) dJ0_checkIndex_df160_5 (fun r τ h => ?_)
  subst h
  refine j_pop C dJ0_checkIndex_df160_8 rfl ?_
  exact j_vret C dJ0_checkIndex_df160_9 rfl
set_option maxHeartbeats 4000000 in
theorem c_J1_charAt {l : Launch} {E : EE} {i : Nat} (hi : i < 7) {q : Int32} (hq : vp_in q (sLen.getD i 0)) {σ : Mem} : CtI l yJ1_charAt_3b067 wsJ1_charAt_3b067 rmJ1_charAt E [.ref (eX E (20 + i)), .int q] σ (fun r τ => r = (sByt.getD i []).getD q.toNatClampNeg 0 ∧ τ = σ) := by
  have hL : sLen.getD i 0 < 2 ^ 31 := by
    have : ∀ i, i < 7 → sLen.getD i 0 < 8 := by decide
    have := this i hi
    omega
  obtain ⟨j, hj, rfl⟩ := vp_in_of hq hL
  refine metI (cc := cJ1_charAt_3b067) (nL := 2) (ret := (some .char)) (lv := [(0, .ref (eX E (20 + i))), (1, .int (nI j))]) (by decide) rfl (Nat.le_of_ble_eq_true rfl) rfl ?_
  intro p e s m args below meth c C
  refine j_iload_n C 1 dJ1_charAt_3b067_0 rfl 1 rfl ?_
  refine j_aload_n C 0 dJ1_charAt_3b067_1 rfl 0 rfl ?_
  refine j_sVlen C i hi dJ1_charAt_3b067_2 ?_
  refine j_callSV (As := [.int (nI j), .int (nI (sLen.getD i 0))]) (rest := []) C (c_J0_check (nI_pos (by omega)) (nI_lt hj hL)) (va_cwS 2 C.2.2.2.2.2.1 gJ1_charAt_3b067_J0_checkIndex_df160 rfl rfl rfl hdJ0_check ⟨Nat.le_of_ble_eq_true rfl, Nat.le_of_ble_eq_true rfl⟩) rfl rfl (Nat.le_of_ble_eq_true rfl) dJ1_charAt_3b067_3 (fun τ h => ?_)
  subst h
  refine j_aload_n C 0 dJ1_charAt_3b067_6 rfl 0 rfl ?_
  refine j_iload_n C 1 dJ1_charAt_3b067_7 rfl 1 rfl ?_
  refine j_sVald C i hi hq dJ1_charAt_3b067_8 ?_
  refine j_sipush (v := (255 : Int32)) C dJ1_charAt_3b067_9 (by decide) ?_
  refine j_iand C dJ1_charAt_3b067_12 ?_
  have hk := nI_clamp (n := j) (by omega)
  have hc := sByt_char i hi j hj
  rw [hk]
  refine j_i2c C dJ1_charAt_3b067_13 hc.1 ?_
  exact j_tret C dJ1_charAt_3b067_14 hc.2 ⟨rfl, rfl⟩
set_option maxHeartbeats 4000000 in
theorem c_J0_charAt {l : Launch} {E : EE} {i : Nat} (hi : i < 7) {q : Int32} (hq : vp_in q (sLen.getD i 0)) {σ : Mem} : CtI l yJ0_charAt_5068e wsJ0_charAt_5068e rmJ0_charAt E [.ref (eX E (10 + i)), .int q] σ (fun r τ => r = (sByt.getD i []).getD q.toNatClampNeg 0 ∧ τ = σ) := by
  have hL : sLen.getD i 0 < 2 ^ 31 := by
    have : ∀ i, i < 7 → sLen.getD i 0 < 8 := by decide
    have := this i hi
    omega
  refine metI (cc := cJ0_charAt_5068e) (nL := 2) (ret := (some .char)) (lv := [(0, .ref (eX E (10 + i))), (1, .int q)]) (by decide) rfl (Nat.le_of_ble_eq_true rfl) rfl ?_
  intro p e s m args below meth c C
  refine j_aload_n C 0 dJ0_charAt_5068e_0 rfl 0 rfl ?_
  refine j_callTI (As := []) (rest := []) C i hi (c_J0_isLatin1 hi) (cwV 0 C.2.2.2.2.2.1 gJ0_charAt_5068e_J0_isLatin1_aae02 rfl rfl rfl hdJ0_isLatin1 ⟨Nat.le_of_ble_eq_true rfl, Nat.le_of_ble_eq_true rfl⟩) rfl rfl (Nat.le_of_ble_eq_true rfl) dJ0_charAt_5068e_1 (fun r τ h => ?_)
  obtain ⟨rfl, rfl⟩ := h
  refine j_if_eq C 16 dJ0_charAt_5068e_4 (by decide) (fun h => absurd h (by decide)) (fun _ => ?_)
  refine j_aload_n C 0 dJ0_charAt_5068e_7 rfl 0 rfl ?_
  refine j_sValue C i hi (by decide +kernel) dJ0_charAt_5068e_8 ?_
  refine j_iload_n C 1 dJ0_charAt_5068e_11 rfl 1 rfl ?_
  refine j_callSI (As := [.ref (eX E (20 + i)), .int q]) (rest := []) C (c_J1_charAt hi hq) (va_cwS 2 C.2.2.2.2.2.1 gJ0_charAt_5068e_J1_charAt_3b067 rfl rfl rfl hdJ1_charAt ⟨Nat.le_of_ble_eq_true rfl, Nat.le_of_ble_eq_true rfl⟩) rfl rfl (Nat.le_of_ble_eq_true rfl) dJ0_charAt_5068e_12 (fun r τ h => ?_)
  obtain ⟨rfl, rfl⟩ := h
  refine j_tret C dJ0_charAt_5068e_15 ?_ ⟨rfl, rfl⟩
  exact (sByt_char i hi _ (in_lt hq)).2
section JS2
variable {E : EE} {p : Program} {l : Launch} {e : Env} {R : Room} {s : State} {m : MethodId} {args : Array Value} {below : List Frame} {meth : Method} {c : Code} {Qf : State → Prop} {nL pc : Nat} {lv : List (Nat × Value)} {stk rest : List Value} {σ : Mem} {cc : ByteArray} {ret : Option FieldType}
theorem j_slen (C : Cx E p s m args meth c RX4 wsX4_isNamed cc nL ret) (i : Nat) (hi : i < 7) (hR : 2 ≤ R.frames ∧ 40 ≤ R.locals) (hro : (rest.map fun v => v.category).sum ≤ 8) (hdg : decode cc pc = .ok (.invokevirtual 101, 3)) (k : ∀ (r : Int32) (τ : Mem), r = nI (sLen.getD i 0) → τ = σ → J E p l e R s m args below meth c Qf nL (pc + 3) lv (.int r :: rest) τ) : J E p l e R s m args below meth c Qf nL pc lv (.ref (eX E (10 + i)) :: rest) σ :=
  j_callTI (As := []) (rest := rest) C i hi (c_J0_length hi) (cwV 0 C.2.2.2.2.2.1 gX4_isNamed_J0_length_8abf5 rfl rfl rfl hdJ0_length ⟨hR.1, hR.2⟩) rfl rfl hro hdg (fun r τ h => k r τ h.1 h.2)
theorem j_schar (C : Cx E p s m args meth c RX4 wsX4_isNamed cc nL ret) (i : Nat) (hi : i < 7) {q : Int32} (hq : vp_in q (sLen.getD i 0)) (hR : 4 ≤ R.frames ∧ 85 ≤ R.locals) (hro : (rest.map fun v => v.category).sum ≤ 8) {idx : Nat} (hi2 : idx = 106) (hdg : decode cc pc = .ok (.invokevirtual idx, 3)) (k : ∀ (r : Int32) (τ : Mem), r = (sByt.getD i []).getD q.toNatClampNeg 0 → τ = σ → J E p l e R s m args below meth c Qf nL (pc + 3) lv (.int r :: rest) τ) : J E p l e R s m args below meth c Qf nL pc lv (.int q :: .ref (eX E (10 + i)) :: rest) σ := by
  subst hi2
  exact j_callTI (As := [.int q]) (rest := rest) C i hi (c_J0_charAt hi hq) (cwV 1 C.2.2.2.2.2.1 gX4_isNamed_J0_charAt_5068e rfl rfl rfl hdJ0_charAt ⟨hR.1, hR.2⟩) rfl rfl hro hdg (fun r τ h => k r τ h.1 h.2)
end JS2
