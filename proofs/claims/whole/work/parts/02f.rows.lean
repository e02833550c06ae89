/-! a world that grows; what constructors and the law do -/
def ty6 (eC : Nat → ClassId) : List (ClassId × FieldType) := [(eC 0, .byte), (eC 1, .int), (eC 2, .boolean), (eC 3, .object "LeapKings$Image"), (eC 4, .object "LeapKings$Sheet"), (eC 5, .array .int)]
def NWs : List (String × Nat × MethodName) := [(RX5, 9, yX4_init), (RX5, 18, yX0_init), (RX5, 28, yX3_init), (RX5, 39, yX1_init), (RX5, 46, yX2_init), (RX1, 9, yX0_init), (RX1, 18, yX3_init), (RX4, 17, yX0_init)]
def KN (D : va_G) (eC : Nat → ClassId) (U : State) : Prop := va_K D vwCl (ty6 eC) U ∧ (∀ q ∈ NWs, va_Nw (.methodLinkNest q.1 q.2.1 q.2.2 RX5) U) ∧ va_AO "LeapKings$Image" U ∧ va_AO "LeapKings$Sheet" U ∧ va_AOA .int U
theorem KN.step {D : va_G} {eC : Nat → ClassId} {s U : State} (h : KN D eC s) (hW : s.WarmedH U.vm) : KN D eC U := ⟨va_K.moved hW.alike h.1, fun q hq => (h.2.1 q hq).warmM hW, va_AO.moved hW.alike h.2.2.1, va_AO.moved hW.alike h.2.2.2.1, va_AOA.moved hW.alike h.2.2.2.2⟩
theorem KN.blind {D : va_G} {eC : Nat → ClassId} {U V : State} (hv : U.vm = V.vm) (h : KN D eC U) : KN D eC V := by
  have ha : U.vm.Alike V.vm := by rw [hv]; exact Vm.Alike.refl V.vm
  exact ⟨va_K.moved ha h.1, fun q hq => (h.2.1 q hq).same rfl hv, va_AO.moved ha h.2.2.1, va_AO.moved ha h.2.2.2.1, va_AOA.moved ha h.2.2.2.2⟩
abbrev An (n0 : Nat) : Nat → Prop := fun q => n0 ≤ q
def Ld (D : va_G) (eC : Nat → ClassId) (n0 sz : Nat) (w : va_W) (U : State) : Prop := U.heap.size = sz ∧ n0 ≤ sz ∧ va_P D vwCl w U.heap ∧ va_D (An n0) w ∧ KN D eC U
theorem Ld.blind {D : va_G} {eC : Nat → ClassId} {n0 sz : Nat} {w : va_W} {av : List Value} : FrameBlind (va_Pc av (Ld D eC n0 sz w)) := by
  intro a U g mk h
  obtain ⟨h0, h1, h2, h3, h4, h5⟩ := h
  exact ⟨h0, h1, h2, h3, h4, h5.blind rfl⟩
def BwN (D : va_G) (n0 : Nat) (wx : va_W) (u : va_W) (t : State) : Prop := va_P D vwCl (wx ++ u) t.heap ∧ va_D (An n0) (wx ++ u)
def CtN (l : Launch) (y : MethodName) (ws : List Cond) (rm : Room) (mc ms : Nat) (D : va_G) (eC : Nat → ClassId) (n0 h : Nat) (ini : va_E) (Sh : va_W → Prop) : Prop :=
  ∀ (sz : Nat) (wx : va_W), Met l y ws rm (va_Pc [.ref h] (Ld D eC n0 sz (wx ++ [(h, ini)]))) (va_Qv Sh (BwN D n0 wx) (An n0)) mc ms (An n0)
def CxN (D : va_G) (eC : Nat → ClassId) (n0 : Nat) (p : Program) (s : State) (m : MethodId) (args : Array Value) (meth : Method) (c : Code) (own : String) (ws : List Cond) (cc : ByteArray) (nL : Nat) (ret : Option FieldType) : Prop :=
  p.tables.exec = Jvm.exec ∧ c.code = cc ∧ meth.sig.returnType = ret ∧ c.maxLocals = nL ∧ s.vm.findClass own = some m.cls ∧ (∀ w ∈ ws, w.before args s = true) ∧ meth.locks = false ∧ KN D eC s ∧ n0 ≤ s.heap.size
def JN (D : va_G) (n0 : Nat) (p : Program) (l : Launch) (e : Env) (R : Room) (s : State) (m : MethodId) (args : Array Value) (below : List Frame) (meth : Method) (c : Code) (Qf : State → Prop) (nL k n pc : Nat) (lv : List (Nat × Value)) (stk : List Value) (w : va_W) : Prop :=
  ∀ (H : Heap) (locs : List Loc) (ls : Array Slot), va_P D vwCl w H → va_D (An n0) w → va_S (An n0) s.heap H locs → lv_has ls nL lv → W p l e R s m args below meth c H locs k n Qf (F0 m pc ls stk)
theorem ga {wx l : va_W} {j : Nat} {x : Nat × va_E} (h : l[j]? = some x) : (wx ++ l)[wx.length + j]? = some x := by
  rw [List.getElem?_append_right (Nat.le_add_right _ _), Nat.add_sub_cancel_left]
  exact h
theorem gs {wx l : va_W} {j : Nat} {x : Nat × va_E} : (wx ++ l).set (wx.length + j) x = wx ++ l.set j x := by
  induction wx with
  | nil => simp
  | cons a t ih =>
    rw [List.length_cons, Nat.add_right_comm, List.cons_append, List.set_cons_succ, ih, List.cons_append]
section NN
variable {D : va_G} {eC : Nat → ClassId} {n0 : Nat} {p : Program} {l : Launch} {e : Env} {R : Room} {s : State} {m : MethodId} {args : Array Value} {below : List Frame} {meth : Method} {c : Code} {Qf : State → Prop} {nL k n pc : Nat} {lv : List (Nat × Value)} {stk rest : List Value} {w wx wl : va_W} {own : String} {ws : List Cond} {cc : ByteArray} {ret : Option FieldType}
theorem metN {y : MethodName} {rm : Room} {mc ms h : Nat} {ini : va_E} {Sh : va_W → Prop} {ws' : List Cond} (hy : plainName y.cls = true) (hw : ws = Cond.code y cc nL none :: ws') (hn : 1 ≤ nL)
    (body : ∀ wx p e s m args below meth c, CxN D eC n0 p s m args meth c y.cls ws cc nL none → meth.name = y.name → JN D n0 p l e rm s m args below meth c (MQ below (va_Qv Sh (BwN D n0 wx) (An n0)) args s mc ms (An n0)) nL 0 0 0 [(0, .ref h)] [] (wx ++ [(h, ini)])) : CtN l y ws rm mc ms D eC n0 h ini Sh := by
  intro sz wx
  refine Met.ofW (cc := cc) (maxL := nL) (ret := none) hy hw ?_
  intro p e s m args below meth c s₁ B hml hv
  obtain ⟨rfl, rfl, hn0, hP, hD, hK⟩ := hv
  have hl := lv_entry [.ref h] (n := nL) (by show 1 ≤ nL; exact hn)
  rw [lg_entry_eq]
  exact body wx p e s m _ below meth c ⟨B.exec, B.bytes, B.returns, hml, findClass_of_methodNamed B.named, atoms_spec (ws := ws) B.pre, B.notSynchronized, hK, hn0⟩ (name_of_methodNamed B.named B.method).1 _ _ _ hP hD va_S.rf hl
theorem n_w {w' : va_W} (h : w = w') (kk : JN D n0 p l e R s m args below meth c Qf nL (k) (n) (pc) lv (stk) (w')) : JN D n0 p l e R s m args below meth c Qf nL (k) (n) (pc) lv (stk) (w) := by rw [h]; exact kk

theorem n_iconst (C : CxN D eC n0 p s m args meth c own ws cc nL ret) {z : Int} {v : Int32} (hdg : decode cc pc = .ok (.iconst z, 1)) (hv : Int32.ofInt z = v) (kk : JN D n0 p l e R s m args below meth c Qf nL (k) (n) (pc + 1) lv (.int v :: stk) (w)) : JN D n0 p l e R s m args below meth c Qf nL (k) (n) (pc) lv (stk) (w) :=
  fun H locs ls hP hD hS hl => lv_iconst C.1 C.2.1 hdg hv (kk H locs ls hP hD hS hl)
theorem n_bipush (C : CxN D eC n0 p s m args meth c own ws cc nL ret) {z : Int} {v : Int32} (hdg : decode cc pc = .ok (.bipush z, 2)) (hv : (Int8.ofInt z).toInt32 = v) (kk : JN D n0 p l e R s m args below meth c Qf nL (k) (n) (pc + 2) lv (.int v :: stk) (w)) : JN D n0 p l e R s m args below meth c Qf nL (k) (n) (pc) lv (stk) (w) :=
  fun H locs ls hP hD hS hl => lv_bipush C.1 C.2.1 hdg hv (kk H locs ls hP hD hS hl)
theorem n_sipush (C : CxN D eC n0 p s m args meth c own ws cc nL ret) {z : Int} {v : Int32} (hdg : decode cc pc = .ok (.sipush z, 3)) (hv : (Int16.ofInt z).toInt32 = v) (kk : JN D n0 p l e R s m args below meth c Qf nL (k) (n) (pc + 3) lv (.int v :: stk) (w)) : JN D n0 p l e R s m args below meth c Qf nL (k) (n) (pc) lv (stk) (w) :=
  fun H locs ls hP hD hS hl => lv_sipush C.1 C.2.1 hdg hv (kk H locs ls hP hD hS hl)
theorem n_dup (C : CxN D eC n0 p s m args meth c own ws cc nL ret) {va : Value} (hdg : decode cc pc = .ok (.dup, 1)) (hva : va.category = 1) (kk : JN D n0 p l e R s m args below meth c Qf nL (k) (n) (pc + 1) lv (va :: va :: stk) (w)) : JN D n0 p l e R s m args below meth c Qf nL (k) (n) (pc) lv (va :: stk) (w) :=
  fun H locs ls hP hD hS hl => lv_dup C.1 C.2.1 hdg hva (kk H locs ls hP hD hS hl)
theorem n_iadd (C : CxN D eC n0 p s m args meth c own ws cc nL ret) {x y : Int32} (hdg : decode cc pc = .ok (.iadd, 1))  (kk : JN D n0 p l e R s m args below meth c Qf nL (k) (n) (pc + 1) lv (.int (x + y) :: stk) (w)) : JN D n0 p l e R s m args below meth c Qf nL (k) (n) (pc) lv (.int y :: .int x :: stk) (w) :=
  fun H locs ls hP hD hS hl => lv_iadd C.1 C.2.1 hdg  (kk H locs ls hP hD hS hl)
theorem n_isub (C : CxN D eC n0 p s m args meth c own ws cc nL ret) {x y : Int32} (hdg : decode cc pc = .ok (.isub, 1))  (kk : JN D n0 p l e R s m args below meth c Qf nL (k) (n) (pc + 1) lv (.int (x - y) :: stk) (w)) : JN D n0 p l e R s m args below meth c Qf nL (k) (n) (pc) lv (.int y :: .int x :: stk) (w) :=
  fun H locs ls hP hD hS hl => lv_isub C.1 C.2.1 hdg  (kk H locs ls hP hD hS hl)
theorem n_iand (C : CxN D eC n0 p s m args meth c own ws cc nL ret) {x y : Int32} (hdg : decode cc pc = .ok (.iand, 1))  (kk : JN D n0 p l e R s m args below meth c Qf nL (k) (n) (pc + 1) lv (.int (x &&& y) :: stk) (w)) : JN D n0 p l e R s m args below meth c Qf nL (k) (n) (pc) lv (.int y :: .int x :: stk) (w) :=
  fun H locs ls hP hD hS hl => lv_iand C.1 C.2.1 hdg  (kk H locs ls hP hD hS hl)
theorem n_lcmp (C : CxN D eC n0 p s m args meth c own ws cc nL ret) {x y : Int64} (hdg : decode cc pc = .ok (.lcmp, 1)) (kk : JN D n0 p l e R s m args below meth c Qf nL (k) (n) (pc + 1) lv (.int (lg_cmp x y) :: stk) (w)) : JN D n0 p l e R s m args below meth c Qf nL (k) (n) (pc) lv (.long y :: .long x :: stk) (w) :=
  fun H locs ls hP hD hS hl => W.lcmp C.1 C.2.1 hdg (kk H locs ls hP hD hS hl)
theorem n_iload (C : CxN D eC n0 p s m args meth c own ws cc nL ret) {q : Fin 4} (i : Nat) {x : Int32} (hdg : decode cc pc = .ok (.iload_n q, 1)) (hi : (q : Nat) = i) (z : Nat) (hz : lv[z]? = some (i, .int x)) (kk : JN D n0 p l e R s m args below meth c Qf nL (k) (n) (pc + 1) lv (.int x :: stk) (w)) : JN D n0 p l e R s m args below meth c Qf nL (k) (n) (pc) lv (stk) (w) :=
  fun H locs ls hP hD hS hl => lv_iload_n C.1 C.2.1 hdg hi (lv_at hl z hz) (kk H locs ls hP hD hS hl)
theorem n_istore (C : CxN D eC n0 p s m args meth c own ws cc nL ret) {q : Fin 4} (i : Nat) {x : Int32} {lv' : List (Nat × Value)} (hdg : decode cc pc = .ok (.istore_n q, 1)) (hi : (q : Nat) = i) (hn : i < nL) (hv : (i, Value.int x) :: lv.filter (fun q => !(q.1 == i) && !(q.1 + 1 == i && q.2.category == 2)) = lv') (kk : JN D n0 p l e R s m args below meth c Qf nL (k) (n) (pc + 1) lv' (stk) (w)) : JN D n0 p l e R s m args below meth c Qf nL (k) (n) (pc) lv (.int x :: stk) (w) :=
  fun H locs ls hP hD hS hl => lv_istore_n C.1 C.2.1 hdg hi hl hn hv (fun ls' hl' => kk H locs ls' hP hD hS hl')
theorem n_aload (C : CxN D eC n0 p s m args meth c own ws cc nL ret) {q : Fin 4} (i : Nat) {x : Nat} (hdg : decode cc pc = .ok (.aload_n q, 1)) (hi : (q : Nat) = i) (z : Nat) (hz : lv[z]? = some (i, .ref x)) (kk : JN D n0 p l e R s m args below meth c Qf nL (k) (n) (pc + 1) lv (.ref x :: stk) (w)) : JN D n0 p l e R s m args below meth c Qf nL (k) (n) (pc) lv (stk) (w) :=
  fun H locs ls hP hD hS hl => lv_aload_n C.1 C.2.1 hdg hi (lv_at hl z hz) (kk H locs ls hP hD hS hl)
theorem n_astore (C : CxN D eC n0 p s m args meth c own ws cc nL ret) {q : Fin 4} (i : Nat) {x : Nat} {lv' : List (Nat × Value)} (hdg : decode cc pc = .ok (.astore_n q, 1)) (hi : (q : Nat) = i) (hn : i < nL) (hv : (i, Value.ref x) :: lv.filter (fun q => !(q.1 == i) && !(q.1 + 1 == i && q.2.category == 2)) = lv') (kk : JN D n0 p l e R s m args below meth c Qf nL (k) (n) (pc + 1) lv' (stk) (w)) : JN D n0 p l e R s m args below meth c Qf nL (k) (n) (pc) lv (.ref x :: stk) (w) :=
  fun H locs ls hP hD hS hl => lv_astore_n C.1 C.2.1 hdg hi hl hn hv (fun ls' hl' => kk H locs ls' hP hD hS hl')
theorem n_iinc (C : CxN D eC n0 p s m args meth c own ws cc nL ret) (i : Nat) {z : Int} {x v : Int32} {lv' : List (Nat × Value)} (hdg : decode cc pc = .ok (.iinc i z, 3)) (q : Nat) (hz : lv[q]? = some (i, .int x)) (hx : x + Int32.ofInt z = v) (hn : i < nL) (hv : (i, Value.int v) :: lv.filter (fun q => !(q.1 == i) && !(q.1 + 1 == i && q.2.category == 2)) = lv') (kk : JN D n0 p l e R s m args below meth c Qf nL (k) (n) (pc + 3) lv' (stk) (w)) : JN D n0 p l e R s m args below meth c Qf nL (k) (n) (pc) lv (stk) (w) :=
  fun H locs ls hP hD hS hl => lv_iinc C.1 C.2.1 hdg hl hz hx hn hv (fun ls' hl' => kk H locs ls' hP hD hS hl')
theorem n_goto (C : CxN D eC n0 p s m args meth c own ws cc nL ret) {off : Int} (tgt : Nat) (hdg : decode cc pc = .ok (.goto off, 3)) (ht : (pc : Int) + off = (tgt : Int)) (kk : JN D n0 p l e R s m args below meth c Qf nL (k) (n) (tgt) lv (stk) (w)) : JN D n0 p l e R s m args below meth c Qf nL (k) (n) (pc) lv (stk) (w) :=
  fun H locs ls hP hD hS hl => lv_goto C.1 C.2.1 hdg ht (kk H locs ls hP hD hS hl)
theorem n_icmp_eq (C : CxN D eC n0 p s m args meth c own ws cc nL ret) {x y : Int32} {off : Int} (tgt : Nat) (hdg : decode cc pc = .ok (.if_icmp .eq off, 3)) (ht : (pc : Int) + off = (tgt : Int)) (kt : x = y → JN D n0 p l e R s m args below meth c Qf nL (k) (n) (tgt) lv (stk) (w)) (kf : ¬ x = y → JN D n0 p l e R s m args below meth c Qf nL (k) (n) (pc + 3) lv (stk) (w)) : JN D n0 p l e R s m args below meth c Qf nL (k) (n) (pc) lv (.int y :: .int x :: stk) (w) :=
  fun H locs ls hP hD hS hl => lv_icmp_eq C.1 C.2.1 hdg ht (fun h => kt h H locs ls hP hD hS hl) (fun h => kf h H locs ls hP hD hS hl)
theorem n_icmp_ge (C : CxN D eC n0 p s m args meth c own ws cc nL ret) {x y : Int32} {off : Int} (tgt : Nat) (hdg : decode cc pc = .ok (.if_icmp .ge off, 3)) (ht : (pc : Int) + off = (tgt : Int)) (kt : y ≤ x → JN D n0 p l e R s m args below meth c Qf nL (k) (n) (tgt) lv (stk) (w)) (kf : ¬ y ≤ x → JN D n0 p l e R s m args below meth c Qf nL (k) (n) (pc + 3) lv (stk) (w)) : JN D n0 p l e R s m args below meth c Qf nL (k) (n) (pc) lv (.int y :: .int x :: stk) (w) :=
  fun H locs ls hP hD hS hl => lv_icmp_ge C.1 C.2.1 hdg ht (fun h => kt h H locs ls hP hD hS hl) (fun h => kf h H locs ls hP hD hS hl)
theorem n_icmp_gt (C : CxN D eC n0 p s m args meth c own ws cc nL ret) {x y : Int32} {off : Int} (tgt : Nat) (hdg : decode cc pc = .ok (.if_icmp .gt off, 3)) (ht : (pc : Int) + off = (tgt : Int)) (kt : y < x → JN D n0 p l e R s m args below meth c Qf nL (k) (n) (tgt) lv (stk) (w)) (kf : ¬ y < x → JN D n0 p l e R s m args below meth c Qf nL (k) (n) (pc + 3) lv (stk) (w)) : JN D n0 p l e R s m args below meth c Qf nL (k) (n) (pc) lv (.int y :: .int x :: stk) (w) :=
  fun H locs ls hP hD hS hl => lv_icmp_gt C.1 C.2.1 hdg ht (fun h => kt h H locs ls hP hD hS hl) (fun h => kf h H locs ls hP hD hS hl)
theorem n_if_eq (C : CxN D eC n0 p s m args meth c own ws cc nL ret) {x : Int32} {off : Int} (tgt : Nat) (hdg : decode cc pc = .ok (.ifCond .eq off, 3)) (ht : (pc : Int) + off = (tgt : Int)) (kt : x = 0 → JN D n0 p l e R s m args below meth c Qf nL (k) (n) (tgt) lv (stk) (w)) (kf : ¬ x = 0 → JN D n0 p l e R s m args below meth c Qf nL (k) (n) (pc + 3) lv (stk) (w)) : JN D n0 p l e R s m args below meth c Qf nL (k) (n) (pc) lv (.int x :: stk) (w) :=
  fun H locs ls hP hD hS hl => lv_if_eq C.1 C.2.1 hdg ht (fun h => kt h H locs ls hP hD hS hl) (fun h => kf h H locs ls hP hD hS hl)
theorem n_obj (C : CxN D eC n0 p s m args meth c own ws cc nL ret) {a idx : Nat} (hw1 : Cond.methodLink own idx objectInit ∈ ws) (hw2 : Cond.instanceMethod objectInit ∈ ws) (hw3 : Cond.code objectInit ⟨#[0xb1]⟩ 1 none ∈ ws) (hfr : 1 ≤ R.frames) (hlo : (stk.map fun v => v.category).sum + 12 ≤ R.locals) (hdg : decode cc pc = .ok (.invokespecial idx, 3)) (kk : JN D n0 p l e R s m args below meth c Qf nL (k) (n) (pc + 3) lv (stk) (w)) : JN D n0 p l e R s m args below meth c Qf nL (k) (n) (pc) lv (.ref a :: stk) (w) := by
  obtain ⟨hx, hb, hr, hml, hown, hts, hlocks, hK, hn0⟩ := C
  intro H locs ls hP hD hS hl
  refine W.objInit hx hb hown (hts _ hw1) (hts _ hw2) (hts _ hw3) rfl (by rw [hml]; exact hl.1) rfl hdg hfr (by show 2 * 0 + _ + 12 ≤ _; omega) ?_
  exact W.eq (g2 := F0 m (pc + 3) ls stk) rfl (kk H locs ls hP hD hS hl)
theorem n_new (C : CxN D eC n0 p s m args meth c own ws cc nL ret) {Cn : String} {T : u_T} {N index : Nat} {fs : List Value} (ci : Nat) (hin : ∀ w ∈ u_ws Cn T N, w ∈ ws) (ty : Nat → FieldType) (hty : ∀ k, k < N → parseFieldDescriptor (T k).2.2.1 = some (ty k)) (hw1 : Cond.classLink own index Cn ∈ ws) (hw2 : Cond.instantiable Cn N ∈ ws) (hw3 : Cond.initialized Cn ∈ ws) (hc : vwCl[ci]? = some (Cn, T, N)) (hfs : ∀ j, j < N → defaultValue (ty j) = vp_V fs j) (hcells : k + 1 ≤ R.cells) (hslots : n + N ≤ R.slots) (hdg : decode cc pc = .ok (.new index, 3)) (kk : ∀ q : Nat, JN D n0 p l e R s m args below meth c Qf nL (k + 1) (n + N) (pc + 3) lv (.ref q :: stk) (wx ++ (wl ++ [(q, .inr (ci, fs))]))) : JN D n0 p l e R s m args below meth c Qf nL (k) (n) (pc) lv (stk) (wx ++ wl) := by
  obtain ⟨hx, hb, hr, hml, hown, hts, hlocks, hK, hn0⟩ := C
  intro H locs ls hP hD hS hl
  refine va_new (C := Cn) (T := T) (N := N) hx hb hts hin ty hty hown (hts _ hw1) (hts _ hw2) (hts _ hw3) hK.1 hP hD hS (fun q h => Nat.le_trans hn0 h) hc hfs hcells hslots hdg (fun q H1 hP1 hD1 hS1 => ?_)
  rw [List.append_assoc] at hP1 hD1
  exact kk q H1 locs ls hP1 hD1 hS1 hl
theorem n_newa (C : CxN D eC n0 p s m args meth c own ws cc nL ret) {atype : ArrayType} {ty : FieldType} {v : Int32} {N' : Nat} {a0 : vp_A} (t0 : Nat) (hw : Cond.arrayClass (newarray.typeOf atype) ∈ ws) (hty : newarray.typeOf atype = ty) (ht : (ty6 eC)[t0]? = some (eC t0, ty)) (ha : ∀ cA : ClassId, vp_cell cA a0 = arrV cA N' (fun _ => defaultValue ty)) (hn : ¬ v < 0) (hN : v.toNatClampNeg = N') (hbytes : N' * componentBytes ty ≤ 536870912) (hcells : k + 1 ≤ R.cells) (hslots : n + N' ≤ R.slots) (hdg : decode cc pc = .ok (.newarray atype, 2)) (kk : ∀ q : Nat, JN D n0 p l e R s m args below meth c Qf nL (k + 1) (n + N') (pc + 2) lv (.ref q :: stk) (wx ++ (wl ++ [(q, .inl (eC t0, a0))]))) : JN D n0 p l e R s m args below meth c Qf nL (k) (n) (pc) lv (.int v :: stk) (wx ++ wl) := by
  obtain ⟨hx, hb, hr, hml, hown, hts, hlocks, hK, hn0⟩ := C
  intro H locs ls hP hD hS hl
  refine va_newa (a0 := a0) hx hb (hts _ hw) hty hK.1 hP hD hS (fun q h => Nat.le_trans hn0 h) ha hn hN hbytes hcells hslots hdg (fun q cA H1 hK1 hP1 hD1 hS1 => ?_)
  have e : cA = eC t0 := ra_one (hK1.2 6 (cA, ty) rfl).2 (hK.1.2 t0 _ ht).2
  subst e
  rw [List.append_assoc] at hP1 hD1
  exact kk q H1 locs ls hP1 hD1 hS1 hl
theorem n_newq (C : CxN D eC n0 p s m args meth c own ws cc nL ret) {Cn : String} {index : Nat} {v : Int32} {N' : Nat} (t0 : Nat) (hw : Cond.classLink own index Cn ∈ ws) (hover : va_AO Cn s) (ht : (ty6 eC)[t0]? = some (eC t0, .object Cn)) (hn : ¬ v < 0) (hN : v.toNatClampNeg = N') (hbytes : N' * 4 ≤ 536870912) (hcells : k + 1 ≤ R.cells) (hslots : n + N' ≤ R.slots) (hdg : decode cc pc = .ok (.anewarray index, 3)) (kk : ∀ q : Nat, JN D n0 p l e R s m args below meth c Qf nL (k + 1) (n + N') (pc + 3) lv (.ref q :: stk) (wx ++ (wl ++ [(q, .inl (eC t0, N', .inr (.inr (.inr (.inr (fun _ => none))))))]))) : JN D n0 p l e R s m args below meth c Qf nL (k) (n) (pc) lv (.int v :: stk) (wx ++ wl) := by
  obtain ⟨hx, hb, hr, hml, hown, hts, hlocks, hK, hn0⟩ := C
  intro H locs ls hP hD hS hl
  refine va_newq hx hb hown (hts _ hw) hover hK.1 hP hD hS (fun q h => Nat.le_trans hn0 h) hn hN hbytes hcells hslots hdg (fun q cA H1 hK1 hP1 hD1 hS1 => ?_)
  have e : cA = eC t0 := ra_one (hK1.2 6 (cA, _) rfl).2 (hK.1.2 t0 _ ht).2
  subst e
  rw [List.append_assoc] at hP1 hD1
  exact kk q H1 locs ls hP1 hD1 hS1 hl
def rl (as : List Nat) : Nat → Option Nat := fun i => as[i]?
theorem rl4 {r : Nat → Nat} : (fun i => if i < 4 then some (r i) else none) = rl [r 0, r 1, r 2, r 3] := by
  funext i
  match i with
  | 0 => rfl
  | 1 => rfl
  | 2 => rfl
  | 3 => rfl
  | i + 4 => simp [rl]
abbrev z0 : Nat → Int32 := fun _ => 0
abbrev rfs (as : List Nat) : (Nat → Int32) ⊕ (Nat → Int64) ⊕ (Nat → UInt32) ⊕ (Nat → UInt64) ⊕ (Nat → Option Nat) := .inr (.inr (.inr (.inr (rl as))))
theorem n_mna (C : CxN D eC n0 p s m args meth c own ws cc nL ret) {index : Nat} (hw : Cond.classLink own index "[[I" ∈ ws) (hw2 : Cond.arrayClass .int ∈ ws) (hcells : k + 5 ≤ R.cells) (hslots : n + 28 ≤ R.slots) (hdg : decode cc pc = .ok (.multianewarray index 2, 4)) (kk : ∀ q r0 r1 r2 r3 : Nat, JN D n0 p l e R s m args below meth c Qf nL (k + 1 + 4) (n + 4 + 4 * 6) (pc + 4) lv (.ref q :: stk) (wx ++ (wl ++ [(q, .inl (eC 5, 4, rfs [r0, r1, r2, r3])), (r0, .inl (eC 1, 6, .inl z0)), (r1, .inl (eC 1, 6, .inl z0)), (r2, .inl (eC 1, 6, .inl z0)), (r3, .inl (eC 1, 6, .inl z0))]))) : JN D n0 p l e R s m args below meth c Qf nL (k) (n) (pc) lv (.int 6 :: .int 4 :: stk) (wx ++ wl) := by
  obtain ⟨hx, hb, hr, hml, hown, hts, hlocks, hK, hn0⟩ := C
  intro H locs ls hP hD hS hl
  have e1 : "[" ++ (FieldType.array .int).toString = "[[I" := by decide +kernel
  have hP0 : va_P D vwCl ((wx ++ wl) ++ va_pl [] (fun _ => .inl (eC 1, 6, .inl z0))) H := by rw [show va_pl [] (fun _ => .inl (eC 1, 6, .inl z0)) = [] from rfl, List.append_nil]; exact hP
  have hD0 : va_D (An n0) ((wx ++ wl) ++ va_pl [] (fun _ => .inl (eC 1, 6, .inl z0))) := by rw [show va_pl [] (fun _ => .inl (eC 1, 6, .inl z0)) = [] from rfl, List.append_nil]; exact hD
  refine va_mna (z := (6, .inl z0)) (cy := eC 1) (ty := .int) hx hb hown (by rw [e1]; exact hts _ hw) hK.2.2.2.2 (hts _ hw2) (hK.1.2 1 _ rfl).2 hK.1 hP0 hD0 hS (fun q h => Nat.le_trans hn0 h) (N' := 4) (K' := 6) (by decide) (by decide) rfl rfl (by decide) (by decide) (by decide) rfl rfl (by omega) (by omega) (fun cz => by show ({ cls := cz, slots := Array.replicate 6 (.int 0), vm := .none } : Cell) = _; rw [arrV_new]; rfl) hdg (fun q r cA H1 hr1 _ hK1 hP1 hD1 hS1 => ?_)
  have e : cA = eC 5 := ra_one (hK1.2 6 (cA, _) rfl).2 (hK.1.2 5 _ rfl).2
  subst e
  have ew : ((wx ++ wl) ++ [(q, .inl (eC 5, 4, .inr (.inr (.inr (.inr (fun i => if i < 4 then some (r i) else none))))))]) ++ va_pl ([] ++ (List.range 4).map r) (vr_up (fun _ => .inl (eC 1, 6, .inl z0)) ((List.range 4).map r) (.inl (eC 1, 6, .inl z0))) = wx ++ (wl ++ [(q, .inl (eC 5, 4, rfs [r 0, r 1, r 2, r 3])), (r 0, .inl (eC 1, 6, .inl z0)), (r 1, .inl (eC 1, 6, .inl z0)), (r 2, .inl (eC 1, 6, .inl z0)), (r 3, .inl (eC 1, 6, .inl z0))]) := by
    rw [rl4]
    have hv : ∀ a, vr_up (fun _ => (.inl (eC 1, 6, .inl z0) : va_E)) ((List.range 4).map r) (.inl (eC 1, 6, .inl z0)) a = .inl (eC 1, 6, .inl z0) := fun a => by unfold vr_up; split <;> rfl
    have hpl : va_pl ([] ++ (List.range 4).map r) (vr_up (fun _ => .inl (eC 1, 6, .inl z0)) ((List.range 4).map r) (.inl (eC 1, 6, .inl z0))) = [(r 0, .inl (eC 1, 6, .inl z0)), (r 1, .inl (eC 1, 6, .inl z0)), (r 2, .inl (eC 1, 6, .inl z0)), (r 3, .inl (eC 1, 6, .inl z0))] := by
      unfold va_pl
      simp only [hv]
      rfl
    rw [hpl, List.append_assoc, List.append_assoc]
    rfl
  rw [ew] at hP1 hD1
  exact kk q (r 0) (r 1) (r 2) (r 3) H1 locs ls hP1 hD1 hS1 hl
theorem n_put (C : CxN D eC n0 p s m args meth c own ws cc nL ret) {idx ci N a : Nat} {Cn : String} {T : u_T} {v : Value} {fs : List Value} {ty : FieldType} (q0 j : Nat) (he : wl[q0]? = some (a, .inr (ci, fs))) (hc : vwCl[ci]? = some (Cn, T, N)) (hin : ∀ w ∈ u_ws Cn T N, w ∈ ws) (ty0 : Nat → FieldType) (hty : ∀ k, k < N → parseFieldDescriptor (T k).2.2.1 = some (ty0 k)) (hnm : ∀ a, a < N → ∀ b, b < N → a ≠ b → (T a).2.1 ≠ (T b).2.1) (hj : j < N) (hlink : Cond.fieldLink own idx (T j).1 (T j).2.1 (T j).2.2.1 ∈ ws) (hfin : (T j).2.2.2 = false) (hd : ty0 j = ty) (hn : narrow ty v = v) (hfit : fits ty v = true) (hl9 : j < fs.length) (hdg : decode cc pc = .ok (.putfield idx, 3)) {wl' : va_W} (hw : wl.set q0 (a, .inr (ci, fs.set j v)) = wl') (kk : JN D n0 p l e R s m args below meth c Qf nL (k) (n) (pc + 3) lv (stk) (wx ++ wl')) : JN D n0 p l e R s m args below meth c Qf nL (k) (n) (pc) lv (v :: .ref a :: stk) (wx ++ wl) := by
  obtain ⟨hx, hb, hr, hml, hown, hts, hlocks, hK, hn0⟩ := C
  intro H locs ls hP hD hS hl
  refine va_put (C := Cn) (T := T) (N := N) hx hb hts hin ty0 hty hnm hown hK.1 hP hD hS (wx.length + q0) (ga he) hc j hj (hts _ hlink) (fun _ h => h) hfin ((hty j hj).trans (congrArg some hd)) hn hfit hl9 hdg (fun H1 locs1 hP1 hD1 hS1 => ?_)
  rw [gs, hw] at hP1 hD1
  exact kk H1 locs1 ls hP1 hD1 hS1 hl
theorem n_putF (C : CxN D eC n0 p s m args meth c own ws cc nL ret) {idx ci N a : Nat} {Cn : String} {T : u_T} {v : Value} {fs : List Value} {ty : FieldType} (q0 j : Nat) (he : wl[q0]? = some (a, .inr (ci, fs))) (hc : vwCl[ci]? = some (Cn, T, N)) (hin : ∀ w ∈ u_ws Cn T N, w ∈ ws) (ty0 : Nat → FieldType) (hty : ∀ k, k < N → parseFieldDescriptor (T k).2.2.1 = some (ty0 k)) (hnm : ∀ a, a < N → ∀ b, b < N → a ≠ b → (T a).2.1 ≠ (T b).2.1) (hj : j < N) (hlink : Cond.fieldLink own idx (T j).1 (T j).2.1 (T j).2.2.1 ∈ ws) (hfin : (T j).2.2.2 = true) (hin2 : meth.name = "<init>") (hdecl : (T j).1 = own) (hd : ty0 j = ty) (hn : narrow ty v = v) (hfit : fits ty v = true) (hl9 : j < fs.length) (hdg : decode cc pc = .ok (.putfield idx, 3)) {wl' : va_W} (hw : wl.set q0 (a, .inr (ci, fs.set j v)) = wl') (kk : JN D n0 p l e R s m args below meth c Qf nL (k) (n) (pc + 3) lv (stk) (wx ++ wl')) : JN D n0 p l e R s m args below meth c Qf nL (k) (n) (pc) lv (v :: .ref a :: stk) (wx ++ wl) := by
  obtain ⟨hx, hb, hr, hml, hown, hts, hlocks, hK, hn0⟩ := C
  intro H locs ls hP hD hS hl
  refine va_putF (C := Cn) (T := T) (N := N) hx hb hts hin ty0 hty hnm hown hK.1 hP hD hS (wx.length + q0) (ga he) hc j hj (hts _ hlink) (fun _ h => h) hfin hin2 hdecl ((hty j hj).trans (congrArg some hd)) hn hfit hl9 hdg (fun H1 locs1 hP1 hD1 hS1 => ?_)
  rw [gs, hw] at hP1 hD1
  exact kk H1 locs1 ls hP1 hD1 hS1 hl
theorem n_get (C : CxN D eC n0 p s m args meth c own ws cc nL ret) {idx ci N a : Nat} {Cn : String} {T : u_T} {v : Value} {fs : List Value} (q0 j : Nat) (he : wl[q0]? = some (a, .inr (ci, fs))) (hc : vwCl[ci]? = some (Cn, T, N)) (hin : ∀ w ∈ u_ws Cn T N, w ∈ ws) (hj : j < N) (hlink : Cond.fieldLink own idx (T j).1 (T j).2.1 (T j).2.2.1 ∈ ws) (hv : fs[j]? = some v) (hdg : decode cc pc = .ok (.getfield idx, 3)) (kk : JN D n0 p l e R s m args below meth c Qf nL (k) (n) (pc + 3) lv (v :: stk) (wx ++ wl)) : JN D n0 p l e R s m args below meth c Qf nL (k) (n) (pc) lv (.ref a :: stk) (wx ++ wl) := by
  obtain ⟨hx, hb, hr, hml, hown, hts, hlocks, hK, hn0⟩ := C
  intro H locs ls hP hD hS hl
  exact va_get (C := Cn) (T := T) (N := N) hx hb hts hin hown hK.1 hP (wx.length + q0) (ga he) hc j hj (hts _ hlink) (fun _ h => h) hv hdg (kk H locs ls hP hD hS hl)
theorem n_aast (C : CxN D eC n0 p s m args meth c own ws cc nL ret) {a v ci N' : Nat} {i : Int32} {r : vw_C} {vs : List Value} {f : Nat → Option Nat} (q0 t0 qk : Nat) (ha : wl[q0]? = some (a, .inl (eC t0, N', .inr (.inr (.inr (.inr f)))))) (ht : (ty6 eC)[t0]? = some (eC t0, .object r.1)) (hv : wl[qk]? = some (v, .inr (ci, vs))) (hc : vwCl[ci]? = some r) (hin : vp_in i N') (hdg : decode cc pc = .ok (.aastore, 1)) {wl' : va_W} (hw : wl.set q0 (a, .inl (eC t0, N', .inr (.inr (.inr (.inr (va_up f i.toNatClampNeg (some v))))))) = wl') (kk : JN D n0 p l e R s m args below meth c Qf nL (k) (n) (pc + 1) lv (stk) (wx ++ wl')) : JN D n0 p l e R s m args below meth c Qf nL (k) (n) (pc) lv (.ref v :: .int i :: .ref a :: stk) (wx ++ wl) := by
  obtain ⟨hx, hb, hr, hml, hown, hts, hlocks, hK, hn0⟩ := C
  intro H locs ls hP hD hS hl
  refine va_astq hx hb hK.1 hP hD hS (wx.length + q0) t0 (wx.length + qk) ci (ga ha) ht (ga hv) hc hin hdg (fun H1 locs1 hP1 hD1 hS1 => ?_)
  rw [gs, hw] at hP1 hD1
  exact kk H1 locs1 ls hP1 hD1 hS1 hl
theorem n_iast (C : CxN D eC n0 p s m args meth c own ws cc nL ret) {a N' : Nat} {i x : Int32} {f : Nat → Int32} (q0 : Nat) (ha : wl[q0]? = some (a, .inl (eC 1, N', .inl f))) (hin : vp_in i N') (hdg : decode cc pc = .ok (.iastore, 1)) {wl' : va_W} (hw : wl.set q0 (a, .inl (eC 1, N', .inl (upd f i.toNatClampNeg x))) = wl') (kk : JN D n0 p l e R s m args below meth c Qf nL (k) (n) (pc + 1) lv (stk) (wx ++ wl')) : JN D n0 p l e R s m args below meth c Qf nL (k) (n) (pc) lv (.int x :: .int i :: .ref a :: stk) (wx ++ wl) := by
  obtain ⟨hx, hb, hr, hml, hown, hts, hlocks, hK, hn0⟩ := C
  intro H locs ls hP hD hS hl
  refine va_iast hx hb hK.1 hP hD hS (wx.length + q0) 1 (ga ha) rfl hin hdg (fun H1 locs1 hP1 hD1 hS1 => ?_)
  rw [gs, hw] at hP1 hD1
  exact kk H1 locs1 ls hP1 hD1 hS1 hl
/-- a constructor of a nest mate, of a class that has just been made -/
theorem n_init (C : CxN D eC n0 p s m args meth c own ws cc nL ret) {y : MethodName} {wy : List Cond} {ry : Room} {cy : ByteArray} {idx maxL mc ms h : Nat} {ini : va_E} {Sh : va_W → Prop} (hM : CtN l y wy ry mc ms D eC n0 h ini Sh) (hG : GoodIn ws wy) (hwy : ∃ ws', wy = Cond.code y cy maxL none :: ws') (hrc : ry.cells = mc ∧ ry.slots = ms) (hNw : (own, idx, y) ∈ NWs) (hw1 : Cond.initialized y.cls ∈ ws) (hd : y.cls ≠ "java/lang/invoke/MethodHandle" ∧ y.cls ≠ "java/lang/invoke/VarHandle" ∧ (parseMethodDescriptor y.desc).map (fun d => d.parameters.length) = some 0) (hR : ry.frames + 1 ≤ R.frames ∧ 8 + (maxL + 11) + ry.locals ≤ R.locals) (hnm : y.name = "<init>") (hw2 : Cond.instanceMethod y ∈ ws) (hro : (stk.map fun v => v.category).sum ≤ 8) (hf : k + mc ≤ R.cells ∧ n + ms ≤ R.slots) (hdg : decode cc pc = .ok (.invokespecial idx, 3)) (kk : ∀ u, Sh u → JN D n0 p l e R s m args below meth c Qf nL (k + mc) (n + ms) (pc + 3) lv (stk) (wx ++ (wl ++ u))) : JN D n0 p l e R s m args below meth c Qf nL (k) (n) (pc) lv (.ref h :: stk) (wx ++ (wl ++ [(h, ini)])) := by
  obtain ⟨hx, hb, hr, hml, hown, hts, hlocks, hK, hn0⟩ := C
  obtain ⟨ws', hwy⟩ := hwy
  intro H locs ls hP hD hS hl
  rw [← List.append_assoc] at hP hD
  have hsz := hS.1
  refine va_callv (va_runIN (As := []) (rest := stk) (b := h) ⟨hx, hb, hml, hown, hts⟩ (hM H.size (wx ++ wl)) ⟨va_cnB 0 hts hG hwy hrc.1 hrc.2 (hK.2.1 _ hNw) (hts _ hw1) hd hR, hnm, hts _ hw2⟩ ⟨Ld.blind, fun U hU hW => ⟨rfl, by rw [hU], Nat.le_trans hn0 hsz, by rw [hU]; exact hP, hD, hK.step hW⟩⟩ rfl rfl hl.1 rfl (lv_room hro) hdg hf) hS (fun q _ hq => hq) (fun q hq => hq) (fun u t H1 locs1 ht hvm hw hB hz1 hk1 hS1 => ?_)
  obtain ⟨hP1, hD1⟩ := hB
  rw [ht] at hP1
  rw [List.append_assoc] at hP1 hD1
  exact kk u hw H1 locs1 ls hP1 hD1 hS1 hl
theorem n_ret (C : CxN D eC n0 p s m args meth c own ws cc nL none) {Sh : va_W → Prop} {mc ms : Nat} (hk : k ≤ mc) (hn : n ≤ ms) (hSh : Sh wl) (hdg : decode cc pc = .ok (.return_, 1)) : JN D n0 p l e R s m args below meth c (MQ below (va_Qv Sh (BwN D n0 wx) (An n0)) args s mc ms (An n0)) nL k n pc lv [] (wx ++ wl) := by
  obtain ⟨hx, hb, hr, hml, hown, hts, hlocks, hK, hn0⟩ := C
  intro H locs ls hP hD hS hl
  refine W.widen (k := mc) (n := ms) hk hn ?_
  exact W.vret hx hb hr (fun t ht hW => ⟨⟨wl, rfl, hSh, by rw [ht]; exact hP, hD⟩, hS.F ht⟩) hS.2.2 hdg hlocks
end NN
