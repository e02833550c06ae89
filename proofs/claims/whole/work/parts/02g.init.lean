/-! constructors of the class -/
abbrev dynL (eC : Nat → ClassId) (h a1 a2 a3 a4 a5 a6 : Nat) : va_W := [(h, .inr (0, [.ref a1, .ref a6, .int 0, .int 0, .int 0, .int 0, .int 0, .int 0, .int (-4), .int 0, .int 0, .int 0])), (a1, .inl (eC 5, 4, rfs [a2, a3, a4, a5])), (a2, .inl (eC 1, 6, .inl z0)), (a3, .inl (eC 1, 6, .inl z0)), (a4, .inl (eC 1, 6, .inl z0)), (a5, .inl (eC 1, 6, .inl z0)), (a6, .inl (eC 1, 6, .inl z0))]
abbrev sigL (eC : Nat → ClassId) (h a1 a2 : Nat) : va_W := [(h, .inr (3, [.ref a1, .ref a2, .int 0])), (a1, .inl (eC 1, 6, .inl z0)), (a2, .inl (eC 1, 6, .inl z0))]
abbrev sheL (eC : Nat → ClassId) (h a1 : Nat) : va_W := [(h, .inr (2, [.ref a1, .int 0, .int (-1)])), (a1, .inl (eC 1, 40, .inl z0))]
abbrev imgL (eC : Nat → ClassId) (h d a1 a2 a3 a4 a5 a6 g b1 b2 : Nat) : va_W := [(h, .inr (1, [.ref d, .ref g, .int 0]))] ++ (dynL eC d a1 a2 a3 a4 a5 a6 ++ sigL eC g b1 b2)
abbrev tapL (eC : Nat → ClassId) (h b d a1 a2 a3 a4 a5 a6 w f g : Nat) : va_W := [(h, .inr (4, [.ref b, .int 0, .ref d, .int 0, .int 0, .int 0, .int 0, .int 0, .int 0, .int 0, .ref w, .ref f, .ref g, .int 0, .int 0, .int 0, .int 0])), (b, .inl (eC 0, 160, .inl z0))] ++ (dynL eC d a1 a2 a3 a4 a5 a6 ++ [(w, .inl (eC 1, 4, .inl z0)), (f, .inl (eC 1, 6, .inl z0)), (g, .inl (eC 2, 6, .inl z0))])
def shDyn (eC : Nat → ClassId) (h : Nat) (u : va_W) : Prop := ∃ a1 a2 a3 a4 a5 a6, u = dynL eC h a1 a2 a3 a4 a5 a6
def shSig (eC : Nat → ClassId) (h : Nat) (u : va_W) : Prop := ∃ a1 a2, u = sigL eC h a1 a2
def shShe (eC : Nat → ClassId) (h : Nat) (u : va_W) : Prop := ∃ a1, u = sheL eC h a1
def shImg (eC : Nat → ClassId) (h : Nat) (u : va_W) : Prop := ∃ d a1 a2 a3 a4 a5 a6 g b1 b2, u = imgL eC h d a1 a2 a3 a4 a5 a6 g b1 b2
def shTap (eC : Nat → ClassId) (h : Nat) (u : va_W) : Prop := ∃ b d a1 a2 a3 a4 a5 a6 w f g, u = tapL eC h b d a1 a2 a3 a4 a5 a6 w f g
def rmI0 : Room := { frames := 1, cells := 6, slots := 34, locals := 12 }
def rmI3 : Room := { frames := 1, cells := 2, slots := 12, locals := 12 }
def rmI2 : Room := { frames := 1, cells := 1, slots := 40, locals := 12 }
def rmI1 : Room := { frames := 2, cells := 10, slots := 61, locals := 32 }
def rmI4 : Room := { frames := 2, cells := 11, slots := 222, locals := 32 }
def rmI5 : Room := { frames := 3, cells := 64, slots := 798, locals := 52 }
theorem hdI {y : MethodName} (h1 : y.cls ≠ "java/lang/invoke/MethodHandle") (h2 : y.cls ≠ "java/lang/invoke/VarHandle") (h3 : (parseMethodDescriptor y.desc).map (fun d => d.parameters.length) = some 0) : y.cls ≠ "java/lang/invoke/MethodHandle" ∧ y.cls ≠ "java/lang/invoke/VarHandle" ∧ (parseMethodDescriptor y.desc).map (fun d => d.parameters.length) = some 0 := ⟨h1, h2, h3⟩

set_option maxRecDepth 20000 in
theorem in_X0_init : ∀ w ∈ u_ws RX0 TX0 12, w ∈ wsX0_init := by decide +kernel
set_option maxRecDepth 20000 in
theorem in_X1_init : ∀ w ∈ u_ws RX1 TX1 3, w ∈ wsX1_init := by decide +kernel
set_option maxRecDepth 20000 in
theorem in_X2_init : ∀ w ∈ u_ws RX2 TX2 3, w ∈ wsX2_init := by decide +kernel
set_option maxRecDepth 20000 in
theorem in_X3_init : ∀ w ∈ u_ws RX3 TX3 3, w ∈ wsX3_init := by decide +kernel
set_option maxRecDepth 20000 in
theorem in_X4_init : ∀ w ∈ u_ws RX4 TX4 17, w ∈ wsX4_init := by decide +kernel
set_option maxRecDepth 20000 in
theorem in_X5_init : ∀ w ∈ u_ws RX5 TX5 10, w ∈ wsX5_init := by decide +kernel
set_option maxHeartbeats 4000000 in
set_option maxRecDepth 100000 in
theorem k_X0_init {l : Launch} {D : va_G} {eC : Nat → ClassId} {n0 h : Nat} : CtN l yX0_init wsX0_init rmI0 6 34 D eC n0 h (.inr (0, [.null, .null, .int 0, .int 0, .int 0, .int 0, .int 0, .int 0, .int 0, .int 0, .int 0, .int 0])) (shDyn eC h) := by
  refine metN (cc := cX0_init) (nL := 1) (by decide) rfl (Nat.le_of_ble_eq_true rfl) ?_
  intro wx p e s m args below meth c C hnm
  refine n_aload C 0 dX0_init_0 rfl 0 rfl ?_
  refine n_obj C (by decide +kernel) (by decide +kernel) (List.mem_of_getElem? (i := 3) rfl) (Nat.le_of_ble_eq_true rfl) (Nat.le_of_ble_eq_true rfl) dX0_init_1 ?_
  refine n_aload C 0 dX0_init_4 rfl 0 rfl ?_
  refine n_iconst (v := 4) C dX0_init_5 (by decide) ?_
  refine n_bipush (v := 6) C dX0_init_6 (by decide) ?_
  refine n_mna C (by decide +kernel) (by decide +kernel) (Nat.le_of_ble_eq_true rfl) (Nat.le_of_ble_eq_true rfl) dX0_init_8 (fun a1 a2 a3 a4 a5 => ?_)
  refine n_w (w' := wx ++ ([(h, .inr (0, [.null, .null, .int 0, .int 0, .int 0, .int 0, .int 0, .int 0, .int 0, .int 0, .int 0, .int 0]))] ++ [(a1, .inl (eC 5, 4, rfs [a2, a3, a4, a5])), (a2, .inl (eC 1, 6, .inl z0)), (a3, .inl (eC 1, 6, .inl z0)), (a4, .inl (eC 1, 6, .inl z0)), (a5, .inl (eC 1, 6, .inl z0))])) rfl ?_
  refine n_putF (v := .ref a1) (ty := .array (.array .int)) (Cn := RX0) (T := TX0) (N := 12) (wl' := [(h, .inr (0, [.ref a1, .null, .int 0, .int 0, .int 0, .int 0, .int 0, .int 0, .int 0, .int 0, .int 0, .int 0]))] ++ [(a1, .inl (eC 5, 4, rfs [a2, a3, a4, a5])), (a2, .inl (eC 1, 6, .inl z0)), (a3, .inl (eC 1, 6, .inl z0)), (a4, .inl (eC 1, 6, .inl z0)), (a5, .inl (eC 1, 6, .inl z0))]) C 0 0 rfl rfl in_X0_init tyX0 tyX0_ok nmX0 (by decide) (by decide +kernel) rfl hnm rfl rfl rfl rfl (Nat.le_of_ble_eq_true rfl) dX0_init_12 rfl ?_
  refine n_aload C 0 dX0_init_15 rfl 0 rfl ?_
  refine n_bipush (v := 6) C dX0_init_16 (by decide) ?_
  refine n_newa (ty := .int) (N' := 6) (a0 := (6, .inl z0)) C 1 (by decide +kernel) rfl rfl (fun _ => rfl) (by decide) rfl (by decide) (Nat.le_of_ble_eq_true rfl) (Nat.le_of_ble_eq_true rfl) dX0_init_18 (fun a6 => ?_)
  refine n_w (w' := wx ++ ([(h, .inr (0, [.ref a1, .null, .int 0, .int 0, .int 0, .int 0, .int 0, .int 0, .int 0, .int 0, .int 0, .int 0]))] ++ ([(a1, .inl (eC 5, 4, rfs [a2, a3, a4, a5])), (a2, .inl (eC 1, 6, .inl z0)), (a3, .inl (eC 1, 6, .inl z0)), (a4, .inl (eC 1, 6, .inl z0)), (a5, .inl (eC 1, 6, .inl z0))] ++ [(a6, .inl (eC 1, 6, .inl z0))]))) rfl ?_
  refine n_putF (v := .ref a6) (ty := .array .int) (Cn := RX0) (T := TX0) (N := 12) (wl' := [(h, .inr (0, [.ref a1, .ref a6, .int 0, .int 0, .int 0, .int 0, .int 0, .int 0, .int 0, .int 0, .int 0, .int 0]))] ++ ([(a1, .inl (eC 5, 4, rfs [a2, a3, a4, a5])), (a2, .inl (eC 1, 6, .inl z0)), (a3, .inl (eC 1, 6, .inl z0)), (a4, .inl (eC 1, 6, .inl z0)), (a5, .inl (eC 1, 6, .inl z0))] ++ [(a6, .inl (eC 1, 6, .inl z0))])) C 0 1 rfl rfl in_X0_init tyX0 tyX0_ok nmX0 (by decide) (by decide +kernel) rfl hnm rfl rfl rfl rfl (Nat.le_of_ble_eq_true rfl) dX0_init_20 rfl ?_
  refine n_aload C 0 dX0_init_23 rfl 0 rfl ?_
  refine n_bipush (v := (-4)) C dX0_init_24 (by decide) ?_
  refine n_put (v := .int (-4)) (ty := .int) (Cn := RX0) (T := TX0) (N := 12) (wl' := [(h, .inr (0, [.ref a1, .ref a6, .int 0, .int 0, .int 0, .int 0, .int 0, .int 0, .int (-4), .int 0, .int 0, .int 0]))] ++ ([(a1, .inl (eC 5, 4, rfs [a2, a3, a4, a5])), (a2, .inl (eC 1, 6, .inl z0)), (a3, .inl (eC 1, 6, .inl z0)), (a4, .inl (eC 1, 6, .inl z0)), (a5, .inl (eC 1, 6, .inl z0))] ++ [(a6, .inl (eC 1, 6, .inl z0))])) C 0 8 rfl rfl in_X0_init tyX0 tyX0_ok nmX0 (by decide) (by decide +kernel) rfl rfl rfl rfl (Nat.le_of_ble_eq_true rfl) dX0_init_26 rfl ?_
  exact n_ret C (Nat.le_of_ble_eq_true rfl) (Nat.le_of_ble_eq_true rfl) ⟨a1, a2, a3, a4, a5, a6, rfl⟩ dX0_init_29
set_option maxHeartbeats 4000000 in
set_option maxRecDepth 100000 in
theorem k_X3_init {l : Launch} {D : va_G} {eC : Nat → ClassId} {n0 h : Nat} : CtN l yX3_init wsX3_init rmI3 2 12 D eC n0 h (.inr (3, [.null, .null, .int 0])) (shSig eC h) := by
  refine metN (cc := cX3_init) (nL := 1) (by decide) rfl (Nat.le_of_ble_eq_true rfl) ?_
  intro wx p e s m args below meth c C hnm
  refine n_aload C 0 dX3_init_0 rfl 0 rfl ?_
  refine n_obj C (by decide +kernel) (by decide +kernel) (List.mem_of_getElem? (i := 3) rfl) (Nat.le_of_ble_eq_true rfl) (Nat.le_of_ble_eq_true rfl) dX3_init_1 ?_
  refine n_aload C 0 dX3_init_4 rfl 0 rfl ?_
  refine n_bipush (v := 6) C dX3_init_5 (by decide) ?_
  refine n_newa (ty := .int) (N' := 6) (a0 := (6, .inl z0)) C 1 (by decide +kernel) rfl rfl (fun _ => rfl) (by decide) rfl (by decide) (Nat.le_of_ble_eq_true rfl) (Nat.le_of_ble_eq_true rfl) dX3_init_7 (fun a1 => ?_)
  refine n_w (w' := wx ++ ([(h, .inr (3, [.null, .null, .int 0]))] ++ [(a1, .inl (eC 1, 6, .inl z0))])) rfl ?_
  refine n_putF (v := .ref a1) (ty := .array .int) (Cn := RX3) (T := TX3) (N := 3) (wl' := [(h, .inr (3, [.ref a1, .null, .int 0]))] ++ [(a1, .inl (eC 1, 6, .inl z0))]) C 0 0 rfl rfl in_X3_init tyX3 tyX3_ok nmX3 (by decide) (by decide +kernel) rfl hnm rfl rfl rfl rfl (Nat.le_of_ble_eq_true rfl) dX3_init_9 rfl ?_
  refine n_aload C 0 dX3_init_12 rfl 0 rfl ?_
  refine n_bipush (v := 6) C dX3_init_13 (by decide) ?_
  refine n_newa (ty := .int) (N' := 6) (a0 := (6, .inl z0)) C 1 (by decide +kernel) rfl rfl (fun _ => rfl) (by decide) rfl (by decide) (Nat.le_of_ble_eq_true rfl) (Nat.le_of_ble_eq_true rfl) dX3_init_15 (fun a2 => ?_)
  refine n_w (w' := wx ++ ([(h, .inr (3, [.ref a1, .null, .int 0]))] ++ ([(a1, .inl (eC 1, 6, .inl z0))] ++ [(a2, .inl (eC 1, 6, .inl z0))]))) rfl ?_
  refine n_putF (v := .ref a2) (ty := .array .int) (Cn := RX3) (T := TX3) (N := 3) (wl' := [(h, .inr (3, [.ref a1, .ref a2, .int 0]))] ++ ([(a1, .inl (eC 1, 6, .inl z0))] ++ [(a2, .inl (eC 1, 6, .inl z0))])) C 0 1 rfl rfl in_X3_init tyX3 tyX3_ok nmX3 (by decide) (by decide +kernel) rfl hnm rfl rfl rfl rfl (Nat.le_of_ble_eq_true rfl) dX3_init_17 rfl ?_
  exact n_ret C (Nat.le_of_ble_eq_true rfl) (Nat.le_of_ble_eq_true rfl) ⟨a1, a2, rfl⟩ dX3_init_20
set_option maxHeartbeats 4000000 in
set_option maxRecDepth 100000 in
theorem k_X2_init {l : Launch} {D : va_G} {eC : Nat → ClassId} {n0 h : Nat} : CtN l yX2_init wsX2_init rmI2 1 40 D eC n0 h (.inr (2, [.null, .int 0, .int 0])) (shShe eC h) := by
  refine metN (cc := cX2_init) (nL := 1) (by decide) rfl (Nat.le_of_ble_eq_true rfl) ?_
  intro wx p e s m args below meth c C hnm
  refine n_aload C 0 dX2_init_0 rfl 0 rfl ?_
  refine n_obj C (by decide +kernel) (by decide +kernel) (List.mem_of_getElem? (i := 3) rfl) (Nat.le_of_ble_eq_true rfl) (Nat.le_of_ble_eq_true rfl) dX2_init_1 ?_
  refine n_aload C 0 dX2_init_4 rfl 0 rfl ?_
  refine n_bipush (v := 40) C dX2_init_5 (by decide) ?_
  refine n_newa (ty := .int) (N' := 40) (a0 := (40, .inl z0)) C 1 (by decide +kernel) rfl rfl (fun _ => rfl) (by decide) rfl (by decide) (Nat.le_of_ble_eq_true rfl) (Nat.le_of_ble_eq_true rfl) dX2_init_7 (fun a1 => ?_)
  refine n_w (w' := wx ++ ([(h, .inr (2, [.null, .int 0, .int 0]))] ++ [(a1, .inl (eC 1, 40, .inl z0))])) rfl ?_
  refine n_putF (v := .ref a1) (ty := .array .int) (Cn := RX2) (T := TX2) (N := 3) (wl' := [(h, .inr (2, [.ref a1, .int 0, .int 0]))] ++ [(a1, .inl (eC 1, 40, .inl z0))]) C 0 0 rfl rfl in_X2_init tyX2 tyX2_ok nmX2 (by decide) (by decide +kernel) rfl hnm rfl rfl rfl rfl (Nat.le_of_ble_eq_true rfl) dX2_init_9 rfl ?_
  refine n_aload C 0 dX2_init_12 rfl 0 rfl ?_
  refine n_iconst (v := (-1)) C dX2_init_13 (by decide) ?_
  refine n_put (v := .int (-1)) (ty := .int) (Cn := RX2) (T := TX2) (N := 3) (wl' := [(h, .inr (2, [.ref a1, .int 0, .int (-1)]))] ++ [(a1, .inl (eC 1, 40, .inl z0))]) C 0 2 rfl rfl in_X2_init tyX2 tyX2_ok nmX2 (by decide) (by decide +kernel) rfl rfl rfl rfl (Nat.le_of_ble_eq_true rfl) dX2_init_14 rfl ?_
  exact n_ret C (Nat.le_of_ble_eq_true rfl) (Nat.le_of_ble_eq_true rfl) ⟨a1, rfl⟩ dX2_init_17
set_option maxHeartbeats 4000000 in
set_option maxRecDepth 100000 in
theorem k_X1_init {l : Launch} {D : va_G} {eC : Nat → ClassId} {n0 h : Nat} : CtN l yX1_init wsX1_init rmI1 10 61 D eC n0 h (.inr (1, [.null, .null, .int 0])) (shImg eC h) := by
  refine metN (cc := cX1_init) (nL := 1) (by decide) rfl (Nat.le_of_ble_eq_true rfl) ?_
  intro wx p e s m args below meth c C hnm
  refine n_aload C 0 dX1_init_0 rfl 0 rfl ?_
  refine n_obj C (by decide +kernel) (by decide +kernel) (List.mem_of_getElem? (i := 3) rfl) (Nat.le_of_ble_eq_true rfl) (Nat.le_of_ble_eq_true rfl) dX1_init_1 ?_
  refine n_aload C 0 dX1_init_4 rfl 0 rfl ?_
  refine n_new (Cn := RX0) (T := TX0) (N := 12) (fs := [.null, .null, .int 0, .int 0, .int 0, .int 0, .int 0, .int 0, .int 0, .int 0, .int 0, .int 0]) C 0 (by decide +kernel) tyX0 tyX0_ok (by decide +kernel) (by decide +kernel) (by decide +kernel) rfl (fun j hj => by rcases (show j = 0 ∨ j = 1 ∨ j = 2 ∨ j = 3 ∨ j = 4 ∨ j = 5 ∨ j = 6 ∨ j = 7 ∨ j = 8 ∨ j = 9 ∨ j = 10 ∨ j = 11 by omega) with rfl | rfl | rfl | rfl | rfl | rfl | rfl | rfl | rfl | rfl | rfl | rfl <;> rfl) (Nat.le_of_ble_eq_true rfl) (Nat.le_of_ble_eq_true rfl) dX1_init_5 (fun d => ?_)
  refine n_dup C dX1_init_8 rfl ?_
  refine n_init C (k_X0_init (h := d)) gX1_init_X0_init_n9 ⟨_, rfl⟩ ⟨rfl, rfl⟩ (List.mem_of_getElem? (i := 5) rfl) (by decide +kernel) (hdI (by decide +kernel) (by decide +kernel) (by decide +kernel)) ⟨Nat.le_of_ble_eq_true rfl, Nat.le_of_ble_eq_true rfl⟩ rfl (by decide +kernel) (Nat.le_of_ble_eq_true rfl) ⟨Nat.le_of_ble_eq_true rfl, Nat.le_of_ble_eq_true rfl⟩ dX1_init_9 (fun u hu => ?_)
  obtain ⟨a1, a2, a3, a4, a5, a6, rfl⟩ := hu
  refine n_w (w' := wx ++ ([(h, .inr (1, [.null, .null, .int 0]))] ++ dynL eC d a1 a2 a3 a4 a5 a6)) rfl ?_
  refine n_putF (v := .ref d) (ty := .object "LeapKings$Dynasty") (Cn := RX1) (T := TX1) (N := 3) (wl' := [(h, .inr (1, [.ref d, .null, .int 0]))] ++ dynL eC d a1 a2 a3 a4 a5 a6) C 0 0 rfl rfl in_X1_init tyX1 tyX1_ok nmX1 (by decide) (by decide +kernel) rfl hnm rfl rfl rfl rfl (Nat.le_of_ble_eq_true rfl) dX1_init_12 rfl ?_
  refine n_aload C 0 dX1_init_15 rfl 0 rfl ?_
  refine n_new (Cn := RX3) (T := TX3) (N := 3) (fs := [.null, .null, .int 0]) C 3 (by decide +kernel) tyX3 tyX3_ok (by decide +kernel) (by decide +kernel) (by decide +kernel) rfl (fun j hj => by rcases (show j = 0 ∨ j = 1 ∨ j = 2 by omega) with rfl | rfl | rfl <;> rfl) (Nat.le_of_ble_eq_true rfl) (Nat.le_of_ble_eq_true rfl) dX1_init_16 (fun g => ?_)
  refine n_dup C dX1_init_19 rfl ?_
  refine n_init C (k_X3_init (h := g)) gX1_init_X3_init_n18 ⟨_, rfl⟩ ⟨rfl, rfl⟩ (List.mem_of_getElem? (i := 6) rfl) (by decide +kernel) (hdI (by decide +kernel) (by decide +kernel) (by decide +kernel)) ⟨Nat.le_of_ble_eq_true rfl, Nat.le_of_ble_eq_true rfl⟩ rfl (by decide +kernel) (Nat.le_of_ble_eq_true rfl) ⟨Nat.le_of_ble_eq_true rfl, Nat.le_of_ble_eq_true rfl⟩ dX1_init_20 (fun u hu => ?_)
  obtain ⟨b1, b2, rfl⟩ := hu
  refine n_w (w' := wx ++ ([(h, .inr (1, [.ref d, .null, .int 0]))] ++ (dynL eC d a1 a2 a3 a4 a5 a6 ++ sigL eC g b1 b2))) rfl ?_
  refine n_putF (v := .ref g) (ty := .object "LeapKings$Sightings") (Cn := RX1) (T := TX1) (N := 3) (wl' := [(h, .inr (1, [.ref d, .ref g, .int 0]))] ++ (dynL eC d a1 a2 a3 a4 a5 a6 ++ sigL eC g b1 b2)) C 0 1 rfl rfl in_X1_init tyX1 tyX1_ok nmX1 (by decide) (by decide +kernel) rfl hnm rfl rfl rfl rfl (Nat.le_of_ble_eq_true rfl) dX1_init_23 rfl ?_
  exact n_ret C (Nat.le_of_ble_eq_true rfl) (Nat.le_of_ble_eq_true rfl) ⟨d, a1, a2, a3, a4, a5, a6, g, b1, b2, rfl⟩ dX1_init_26
set_option maxHeartbeats 4000000 in
set_option maxRecDepth 100000 in
theorem k_X4_init {l : Launch} {D : va_G} {eC : Nat → ClassId} {n0 h : Nat} : CtN l yX4_init wsX4_init rmI4 11 222 D eC n0 h (.inr (4, [.null, .int 0, .null, .int 0, .int 0, .int 0, .int 0, .int 0, .int 0, .int 0, .null, .null, .null, .int 0, .int 0, .int 0, .int 0])) (shTap eC h) := by
  refine metN (cc := cX4_init) (nL := 1) (by decide) rfl (Nat.le_of_ble_eq_true rfl) ?_
  intro wx p e s m args below meth c C hnm
  refine n_aload C 0 dX4_init_0 rfl 0 rfl ?_
  refine n_obj C (by decide +kernel) (by decide +kernel) (List.mem_of_getElem? (i := 3) rfl) (Nat.le_of_ble_eq_true rfl) (Nat.le_of_ble_eq_true rfl) dX4_init_1 ?_
  refine n_aload C 0 dX4_init_4 rfl 0 rfl ?_
  refine n_sipush (v := 160) C dX4_init_5 (by decide) ?_
  refine n_newa (ty := .byte) (N' := 160) (a0 := (160, .inl z0)) C 0 (by decide +kernel) rfl rfl (fun _ => rfl) (by decide) rfl (by decide) (Nat.le_of_ble_eq_true rfl) (Nat.le_of_ble_eq_true rfl) dX4_init_8 (fun b => ?_)
  refine n_w (w' := wx ++ ([(h, .inr (4, [.null, .int 0, .null, .int 0, .int 0, .int 0, .int 0, .int 0, .int 0, .int 0, .null, .null, .null, .int 0, .int 0, .int 0, .int 0]))] ++ [(b, .inl (eC 0, 160, .inl z0))])) rfl ?_
  refine n_putF (v := .ref b) (ty := .array .byte) (Cn := RX4) (T := TX4) (N := 17) (wl' := [(h, .inr (4, [.ref b, .int 0, .null, .int 0, .int 0, .int 0, .int 0, .int 0, .int 0, .int 0, .null, .null, .null, .int 0, .int 0, .int 0, .int 0]))] ++ [(b, .inl (eC 0, 160, .inl z0))]) C 0 0 rfl rfl in_X4_init tyX4 tyX4_ok nmX4 (by decide) (by decide +kernel) rfl hnm rfl rfl rfl rfl (Nat.le_of_ble_eq_true rfl) dX4_init_10 rfl ?_
  refine n_aload C 0 dX4_init_13 rfl 0 rfl ?_
  refine n_new (Cn := RX0) (T := TX0) (N := 12) (fs := [.null, .null, .int 0, .int 0, .int 0, .int 0, .int 0, .int 0, .int 0, .int 0, .int 0, .int 0]) C 0 (by decide +kernel) tyX0 tyX0_ok (by decide +kernel) (by decide +kernel) (by decide +kernel) rfl (fun j hj => by rcases (show j = 0 ∨ j = 1 ∨ j = 2 ∨ j = 3 ∨ j = 4 ∨ j = 5 ∨ j = 6 ∨ j = 7 ∨ j = 8 ∨ j = 9 ∨ j = 10 ∨ j = 11 by omega) with rfl | rfl | rfl | rfl | rfl | rfl | rfl | rfl | rfl | rfl | rfl | rfl <;> rfl) (Nat.le_of_ble_eq_true rfl) (Nat.le_of_ble_eq_true rfl) dX4_init_14 (fun d => ?_)
  refine n_dup C dX4_init_17 rfl ?_
  refine n_init C (k_X0_init (h := d)) gX4_init_X0_init_n17 ⟨_, rfl⟩ ⟨rfl, rfl⟩ (List.mem_of_getElem? (i := 7) rfl) (by decide +kernel) (hdI (by decide +kernel) (by decide +kernel) (by decide +kernel)) ⟨Nat.le_of_ble_eq_true rfl, Nat.le_of_ble_eq_true rfl⟩ rfl (by decide +kernel) (Nat.le_of_ble_eq_true rfl) ⟨Nat.le_of_ble_eq_true rfl, Nat.le_of_ble_eq_true rfl⟩ dX4_init_18 (fun u hu => ?_)
  obtain ⟨a1, a2, a3, a4, a5, a6, rfl⟩ := hu
  refine n_w (w' := wx ++ ([(h, .inr (4, [.ref b, .int 0, .null, .int 0, .int 0, .int 0, .int 0, .int 0, .int 0, .int 0, .null, .null, .null, .int 0, .int 0, .int 0, .int 0]))] ++ ([(b, .inl (eC 0, 160, .inl z0))] ++ dynL eC d a1 a2 a3 a4 a5 a6))) rfl ?_
  refine n_putF (v := .ref d) (ty := .object "LeapKings$Dynasty") (Cn := RX4) (T := TX4) (N := 17) (wl' := [(h, .inr (4, [.ref b, .int 0, .ref d, .int 0, .int 0, .int 0, .int 0, .int 0, .int 0, .int 0, .null, .null, .null, .int 0, .int 0, .int 0, .int 0]))] ++ ([(b, .inl (eC 0, 160, .inl z0))] ++ dynL eC d a1 a2 a3 a4 a5 a6)) C 0 2 rfl rfl in_X4_init tyX4 tyX4_ok nmX4 (by decide) (by decide +kernel) rfl hnm rfl rfl rfl rfl (Nat.le_of_ble_eq_true rfl) dX4_init_21 rfl ?_
  refine n_aload C 0 dX4_init_24 rfl 0 rfl ?_
  refine n_iconst (v := 4) C dX4_init_25 (by decide) ?_
  refine n_newa (ty := .int) (N' := 4) (a0 := (4, .inl z0)) C 1 (by decide +kernel) rfl rfl (fun _ => rfl) (by decide) rfl (by decide) (Nat.le_of_ble_eq_true rfl) (Nat.le_of_ble_eq_true rfl) dX4_init_26 (fun w => ?_)
  refine n_w (w' := wx ++ ([(h, .inr (4, [.ref b, .int 0, .ref d, .int 0, .int 0, .int 0, .int 0, .int 0, .int 0, .int 0, .null, .null, .null, .int 0, .int 0, .int 0, .int 0]))] ++ ([(b, .inl (eC 0, 160, .inl z0))] ++ (dynL eC d a1 a2 a3 a4 a5 a6 ++ [(w, .inl (eC 1, 4, .inl z0))])))) rfl ?_
  refine n_putF (v := .ref w) (ty := .array .int) (Cn := RX4) (T := TX4) (N := 17) (wl' := [(h, .inr (4, [.ref b, .int 0, .ref d, .int 0, .int 0, .int 0, .int 0, .int 0, .int 0, .int 0, .ref w, .null, .null, .int 0, .int 0, .int 0, .int 0]))] ++ ([(b, .inl (eC 0, 160, .inl z0))] ++ (dynL eC d a1 a2 a3 a4 a5 a6 ++ [(w, .inl (eC 1, 4, .inl z0))]))) C 0 10 rfl rfl in_X4_init tyX4 tyX4_ok nmX4 (by decide) (by decide +kernel) rfl hnm rfl rfl rfl rfl (Nat.le_of_ble_eq_true rfl) dX4_init_28 rfl ?_
  refine n_aload C 0 dX4_init_31 rfl 0 rfl ?_
  refine n_bipush (v := 6) C dX4_init_32 (by decide) ?_
  refine n_newa (ty := .int) (N' := 6) (a0 := (6, .inl z0)) C 1 (by decide +kernel) rfl rfl (fun _ => rfl) (by decide) rfl (by decide) (Nat.le_of_ble_eq_true rfl) (Nat.le_of_ble_eq_true rfl) dX4_init_34 (fun f => ?_)
  refine n_w (w' := wx ++ ([(h, .inr (4, [.ref b, .int 0, .ref d, .int 0, .int 0, .int 0, .int 0, .int 0, .int 0, .int 0, .ref w, .null, .null, .int 0, .int 0, .int 0, .int 0]))] ++ ([(b, .inl (eC 0, 160, .inl z0))] ++ (dynL eC d a1 a2 a3 a4 a5 a6 ++ ([(w, .inl (eC 1, 4, .inl z0))] ++ [(f, .inl (eC 1, 6, .inl z0))]))))) rfl ?_
  refine n_putF (v := .ref f) (ty := .array .int) (Cn := RX4) (T := TX4) (N := 17) (wl' := [(h, .inr (4, [.ref b, .int 0, .ref d, .int 0, .int 0, .int 0, .int 0, .int 0, .int 0, .int 0, .ref w, .ref f, .null, .int 0, .int 0, .int 0, .int 0]))] ++ ([(b, .inl (eC 0, 160, .inl z0))] ++ (dynL eC d a1 a2 a3 a4 a5 a6 ++ ([(w, .inl (eC 1, 4, .inl z0))] ++ [(f, .inl (eC 1, 6, .inl z0))])))) C 0 11 rfl rfl in_X4_init tyX4 tyX4_ok nmX4 (by decide) (by decide +kernel) rfl hnm rfl rfl rfl rfl (Nat.le_of_ble_eq_true rfl) dX4_init_36 rfl ?_
  refine n_aload C 0 dX4_init_39 rfl 0 rfl ?_
  refine n_bipush (v := 6) C dX4_init_40 (by decide) ?_
  refine n_newa (ty := .boolean) (N' := 6) (a0 := (6, .inl z0)) C 2 (by decide +kernel) rfl rfl (fun _ => rfl) (by decide) rfl (by decide) (Nat.le_of_ble_eq_true rfl) (Nat.le_of_ble_eq_true rfl) dX4_init_42 (fun g => ?_)
  refine n_w (w' := wx ++ ([(h, .inr (4, [.ref b, .int 0, .ref d, .int 0, .int 0, .int 0, .int 0, .int 0, .int 0, .int 0, .ref w, .ref f, .null, .int 0, .int 0, .int 0, .int 0]))] ++ ([(b, .inl (eC 0, 160, .inl z0))] ++ (dynL eC d a1 a2 a3 a4 a5 a6 ++ ([(w, .inl (eC 1, 4, .inl z0))] ++ ([(f, .inl (eC 1, 6, .inl z0))] ++ [(g, .inl (eC 2, 6, .inl z0))])))))) rfl ?_
  refine n_putF (v := .ref g) (ty := .array .boolean) (Cn := RX4) (T := TX4) (N := 17) (wl' := [(h, .inr (4, [.ref b, .int 0, .ref d, .int 0, .int 0, .int 0, .int 0, .int 0, .int 0, .int 0, .ref w, .ref f, .ref g, .int 0, .int 0, .int 0, .int 0]))] ++ ([(b, .inl (eC 0, 160, .inl z0))] ++ (dynL eC d a1 a2 a3 a4 a5 a6 ++ ([(w, .inl (eC 1, 4, .inl z0))] ++ ([(f, .inl (eC 1, 6, .inl z0))] ++ [(g, .inl (eC 2, 6, .inl z0))]))))) C 0 12 rfl rfl in_X4_init tyX4 tyX4_ok nmX4 (by decide) (by decide +kernel) rfl hnm rfl rfl rfl rfl (Nat.le_of_ble_eq_true rfl) dX4_init_44 rfl ?_
  exact n_ret C (Nat.le_of_ble_eq_true rfl) (Nat.le_of_ble_eq_true rfl) ⟨b, d, a1, a2, a3, a4, a5, a6, w, f, g, rfl⟩ dX4_init_47
