/-! THE WORLD: 79 cells, their addresses, what each holds out of one memory -/
abbrev Mem : Type := (Nat → Nat → Int32) × (Nat → Nat → Int64)
def stC (σ : Mem) (k : Nat) (f : Nat → Int32) : Mem := (fun a => if a = k then f else σ.1 a, σ.2)
def st1 (σ : Mem) (k j : Nat) (v : Int32) : Mem := stC σ k (upd (σ.1 k) j v)
def st2 (σ : Mem) (k j : Nat) (v : Int64) : Mem := (σ.1, fun a => if a = k then vp_updL (σ.2 k) j v else σ.2 a)
theorem stC_same {σ : Mem} {k : Nat} {f : Nat → Int32} : (stC σ k f).1 k = f := by simp [stC]
theorem stC_off {σ : Mem} {k a : Nat} {f : Nat → Int32} (h : a ≠ k) : (stC σ k f).1 a = σ.1 a := by simp [stC, h]
theorem stC_two {σ : Mem} {k : Nat} {f : Nat → Int32} : (stC σ k f).2 = σ.2 := rfl
theorem st1_same {σ : Mem} {k j : Nat} {v : Int32} : (st1 σ k j v).1 k = upd (σ.1 k) j v := by simp [st1, stC]
theorem st1_off {σ : Mem} {k j a : Nat} {v : Int32} (h : a ≠ k) : (st1 σ k j v).1 a = σ.1 a := by simp [st1, stC, h]
theorem st1_two {σ : Mem} {k j : Nat} {v : Int32} : (st1 σ k j v).2 = σ.2 := rfl
theorem st2_same {σ : Mem} {k j : Nat} {v : Int64} : (st2 σ k j v).2 k = vp_updL (σ.2 k) j v := by simp [st2]
theorem st2_off {σ : Mem} {k j a : Nat} {v : Int64} (h : a ≠ k) : (st2 σ k j v).2 a = σ.2 a := by simp [st2, h]
theorem st2_one {σ : Mem} {k j : Nat} {v : Int64} : (st2 σ k j v).1 = σ.1 := rfl
/-- classes and slots; addresses; array classes; other addresses (tables, texts) -/
abbrev EE : Type := va_G × (Nat → Nat) × (Nat → ClassId) × (Nat → Nat)
abbrev eA (E : EE) : Nat → Nat := E.2.1
abbrev eC (E : EE) : Nat → ClassId := E.2.2.1
abbrev eX (E : EE) : Nat → Nat := E.2.2.2
abbrev Sh : Type := (Nat → Int32) → (Nat → Int64) → va_E
def sV (E : EE) (m : Nat → Int32) (ml : Nat → Int64) (j : Nat) (q : Nat × Nat) : Value := if q.1 = 0 then .int (m j) else if q.1 = 1 then .long (ml j) else .ref (eA E q.2)
def sO (E : EE) (ci : Nat) (sp : List (Nat × Nat)) : Sh := fun m ml => .inr (ci, sp.mapIdx (sV E m ml))
def sA (c : ClassId) (n : Nat) : Sh := fun m _ => .inl (c, n, .inl m)
def sR (E : EE) (c : ClassId) (n b k : Nat) : Sh := fun _ _ => .inl (c, n, .inr (.inr (.inr (.inr (fun i => if i < n then some (eA E (b + k * i)) else none)))))
def spD (d : Nat) : List (Nat × Nat) := [(2, d + 1), (2, d + 6), (0, 0), (0, 0), (0, 0), (0, 0), (0, 0), (0, 0), (0, 0), (0, 0), (0, 0), (0, 0)]
def spI (d : Nat) : List (Nat × Nat) := [(2, d + 1), (2, d + 8), (0, 0)]
def spSh (d : Nat) : List (Nat × Nat) := [(2, d + 1), (0, 0), (0, 0)]
def spSi (d : Nat) : List (Nat × Nat) := [(2, d + 1), (2, d + 2), (0, 0)]
def spT : List (Nat × Nat) := [(2, 2), (0, 0), (2, 5), (0, 0), (0, 0), (0, 0), (0, 0), (0, 0), (0, 0), (0, 0), (2, 78), (2, 3), (2, 4), (0, 0), (0, 0), (0, 0), (0, 0)]
def spX : List (Nat × Nat) := [(2, 1), (2, 12), (2, 19), (2, 26), (2, 29), (2, 52), (2, 61), (2, 62), (2, 63), (0, 0)]
def spM : List (Nat × Nat) := [(2, 65), (2, 66), (2, 67), (2, 68), (0, 0), (0, 0), (0, 0), (2, 69), (0, 0), (2, 70), (0, 0), (0, 0), (0, 0), (0, 0), (0, 0), (0, 0), (0, 0), (0, 0), (0, 0), (0, 0), (2, 71), (1, 0), (1, 0), (1, 0), (2, 72), (2, 73), (2, 74), (2, 75), (2, 76), (0, 0), (2, 77)]
def shp (E : EE) : List Sh := [
  sO E 5 spX, sO E 4 spT, sA (eC E 0) 160, sA (eC E 1) 6, sA (eC E 2) 6,
  sO E 0 (spD 5), sR E (eC E 5) 4 7 1, sA (eC E 1) 6, sA (eC E 1) 6, sA (eC E 1) 6, sA (eC E 1) 6, sA (eC E 1) 6,
  sO E 0 (spD 12), sR E (eC E 5) 4 14 1, sA (eC E 1) 6, sA (eC E 1) 6, sA (eC E 1) 6, sA (eC E 1) 6, sA (eC E 1) 6,
  sO E 0 (spD 19), sR E (eC E 5) 4 21 1, sA (eC E 1) 6, sA (eC E 1) 6, sA (eC E 1) 6, sA (eC E 1) 6, sA (eC E 1) 6,
  sO E 3 (spSi 26), sA (eC E 1) 6, sA (eC E 1) 6,
  sR E (eC E 3) 2 30 11,
  sO E 1 (spI 30), sO E 0 (spD 31), sR E (eC E 5) 4 33 1, sA (eC E 1) 6, sA (eC E 1) 6, sA (eC E 1) 6, sA (eC E 1) 6, sA (eC E 1) 6, sO E 3 (spSi 38), sA (eC E 1) 6, sA (eC E 1) 6,
  sO E 1 (spI 41), sO E 0 (spD 42), sR E (eC E 5) 4 44 1, sA (eC E 1) 6, sA (eC E 1) 6, sA (eC E 1) 6, sA (eC E 1) 6, sA (eC E 1) 6, sO E 3 (spSi 49), sA (eC E 1) 6, sA (eC E 1) 6,
  sR E (eC E 4) 4 53 2,
  sO E 2 (spSh 53), sA (eC E 1) 40, sO E 2 (spSh 55), sA (eC E 1) 40, sO E 2 (spSh 57), sA (eC E 1) 40, sO E 2 (spSh 59), sA (eC E 1) 40,
  sA (eC E 1) 20, sA (eC E 1) 6, sA (eC E 1) 120,
  sO E 6 spM, sA (eC E 1) 147, sA (eC E 1) 49, sA (eC E 2) 2, sA (eC E 1) 49, sA (eC E 1) 6, sA (eC E 1) 160, sA (eC E 1) 6, sA (eC E 1) 21, sA (eC E 1) 126, sA (eC E 1) 4, sA (eC E 1) 4, sA (eC E 1) 160, sA (eC E 1) 49,
  sA (eC E 1) 4]
theorem shp_len (E : EE) : (shp E).length = 79 := rfl
def Wd (E : EE) (σ : Mem) : va_W := (shp E).mapIdx (fun k f => (eA E k, f (σ.1 k) (σ.2 k)))
theorem Wd_len (E : EE) (σ : Mem) : (Wd E σ).length = 79 := by simp [Wd, shp_len]
theorem Wd_get {E : EE} {σ : Mem} {k : Nat} {f : Sh} (h : (shp E)[k]? = some f) : (Wd E σ)[k]? = some (eA E k, f (σ.1 k) (σ.2 k)) := by
  simp [Wd, List.getElem?_mapIdx, h]
theorem Wd_addr {E : EE} {σ : Mem} {k : Nat} {q : Nat × va_E} (h : (Wd E σ)[k]? = some q) : k < 79 ∧ q.1 = eA E k := by
  have hk : k < (Wd E σ).length := (List.getElem?_eq_some_iff.mp h).1
  rw [Wd_len] at hk
  refine ⟨hk, ?_⟩
  simp only [Wd, List.getElem?_mapIdx, Option.map_eq_some_iff] at h
  obtain ⟨f, -, rfl⟩ := h
  rfl
theorem Wd_set {E : EE} {σ : Mem} {k : Nat} {f : Sh} (h : (shp E)[k]? = some f) (σ' : Mem) {e : va_E} (he : f (σ'.1 k) (σ'.2 k) = e) (h1 : ∀ a, a ≠ k → σ'.1 a = σ.1 a) (h2 : ∀ a, a ≠ k → σ'.2 a = σ.2 a) : (Wd E σ).set k (eA E k, e) = Wd E σ' := by
  have hk : k < (Wd E σ).length := by
    rw [Wd_len, ← shp_len E]
    exact (List.getElem?_eq_some_iff.mp h).1
  apply List.ext_getElem?
  intro i
  by_cases hi : i = k
  · subst hi
    rw [Wd_get h, List.getElem?_set_self hk, he]
  · rw [List.getElem?_set_ne (fun q => hi q.symm)]
    simp only [Wd, List.getElem?_mapIdx, h1 i hi, h2 i hi]
def Apart (ad : Nat → Nat) : Prop := ∀ i j : Nat, i < 79 → j < 79 → ad i = ad j → i = j
def GA (ad : Nat → Nat) (sz : Nat) : Nat → Prop := fun q => (∃ k, k < 79 ∧ q = ad k) ∨ sz ≤ q
theorem Wd_D {E : EE} {σ : Mem} {sz : Nat} (h : Apart (eA E)) : va_D (GA (eA E) sz) (Wd E σ) := by
  refine ⟨fun i j p q hp hq e => ?_, fun k q hq => ?_⟩
  · obtain ⟨a1, a2⟩ := Wd_addr hp
    obtain ⟨b1, b2⟩ := Wd_addr hq
    exact h i j a1 b1 (by rw [← a2, ← b2, e])
  · obtain ⟨a1, a2⟩ := Wd_addr hq
    exact Or.inl ⟨k, a1, a2⟩
theorem GA_mono {ad : Nat → Nat} {a b : Nat} (h : a ≤ b) : ∀ q, GA ad b q → GA ad a q := fun q hq => by
  rcases hq with hq | hq
  · exact Or.inl hq
  · exact Or.inr (Nat.le_trans h hq)
def tysG (E : EE) : List (ClassId × FieldType) := [(eC E 0, .byte), (eC E 1, .int), (eC E 2, .boolean), (eC E 3, .object "LeapKings$Image"), (eC E 4, .object "LeapKings$Sheet"), (eC E 5, .array .int)]
def tLeast : List Int32 := [0, 0, 1, 1]
def tGreat : List Int32 := [3, 20, 20, 30]
def sIdx : List Nat := [138, 140, 142, 144, 119, 128, 133]
def sTxt : List String := ["plain", "tall", "stooped", "stool", "line", "lumbago", "works"]
def sLen : List Nat := [5, 4, 7, 5, 4, 7, 5]
def sByt : List (List Int32) := [[112, 108, 97, 105, 110], [116, 97, 108, 108], [115, 116, 111, 111, 112, 101, 100], [115, 116, 111, 111, 108], [108, 105, 110, 101], [108, 117, 109, 98, 97, 103, 111], [119, 111, 114, 107, 115]]
/-- the texts -/
def GStr (E : EE) (sz : Nat) (U : State) (H : Heap) : Prop :=
  (∀ i : Nat, i < 7 → vk_R RX4 (sIdx.getD i 0) (sTxt.getD i "") (eX E (10 + i)) U) ∧
  vk_S 7 sLen sByt (fun i => eX E (10 + i)) (fun i => eX E (20 + i)) (GA (eA E) sz) U H ∧
  va_Z "java/lang/String" "COMPACT_STRINGS" "Z" (.int 1) (GA (eA E) sz) U H ∧
  va_Zq "jdk/internal/util/Preconditions" "SIOOBE_FORMATTER" "Ljava/util/function/BiFunction;" (GA (eA E) sz) U H
/-- one fact each about the start that no call changes, and that holds in any room sz -/
def Glob (E : EE) (sz : Nat) (U : State) (H : Heap) : Prop :=
  va_K E.1 vwCl (tysG E) U ∧
  (va_Nw (.methodLinkNest RX4 166 yX5_within RX5) U ∧ va_Nw (.methodLinkNest RX0 48 yX5_within RX5) U ∧ va_Nw (.methodLinkNest RX0 52 yX5_isTrait RX5) U ∧ va_Nw (.methodLinkNest RX2 22 yX5_within RX5) U ∧ va_Nw (.fieldLinkNest RX4 149 "LeapKings" "LEAST" "[I" RX5) U ∧ va_Nw (.fieldLinkNest RX4 152 "LeapKings" "GREATEST" "[I" RX5) U) ∧
  (va_Z "LeapKings" "LEAST" "[I" (.ref (eX E 0)) (GA (eA E) sz) U H ∧ va_T .int (eX E 0) 4 (fun j => .int (tLeast.getD j 0)) (GA (eA E) sz) U H) ∧
  (va_Z "LeapKings" "GREATEST" "[I" (.ref (eX E 1)) (GA (eA E) sz) U H ∧ va_T .int (eX E 1) 4 (fun j => .int (tGreat.getD j 0)) (GA (eA E) sz) U H) ∧
  GStr E sz U H
theorem Glob.step {E : EE} {sz : Nat} {s U : State} {H : Heap} {locs : List Loc} (h : Glob E sz s s.heap) (hsz : s.heap.size = sz) (hS : va_S (GA (eA E) sz) s.heap H locs) (hW : s.WarmedH U.vm) : Glob E H.size U H := by
  obtain ⟨hK, ⟨n1, n2, n3, n4, n5, n6⟩, ⟨z1, t1⟩, ⟨z2, t2⟩, ⟨r1, r2, r3, r4⟩⟩ := h
  have hm := GA_mono (ad := eA E) (a := sz) (b := H.size) (by rw [← hsz]; exact hS.1)
  exact ⟨va_K.moved hW.alike hK, ⟨n1.warmM hW, n2.warmM hW, n3.warmM hW, n4.warmM hW, n5.warmF hW, n6.warmF hW⟩, ⟨((z1.kept hS.2.1).narrow hm).moved hW.alike, ((t1.kept hS.2.1).narrow hm).moved hW.alike⟩, ⟨((z2.kept hS.2.1).narrow hm).moved hW.alike, ((t2.kept hS.2.1).narrow hm).moved hW.alike⟩, ⟨fun i hi => (r1 i hi).warm hW, ((r2.kept hS.2.1).narrow hm).moved hW.alike, ((r3.kept hS.2.1).narrow hm).moved hW.alike, ((r4.kept hS.2.1).narrow hm).moved hW.alike⟩⟩
theorem Glob.blind {E : EE} {sz : Nat} {U V : State} {H : Heap} (hv : U.vm = V.vm) (h : Glob E sz U H) : Glob E sz V H := by
  obtain ⟨hK, ⟨n1, n2, n3, n4, n5, n6⟩, ⟨z1, t1⟩, ⟨z2, t2⟩, ⟨r1, r2, r3, r4⟩⟩ := h
  have ha : U.vm.Alike V.vm := by rw [hv]; exact Vm.Alike.refl V.vm
  exact ⟨va_K.moved ha hK, ⟨n1.same rfl hv, n2.same rfl hv, n3.same rfl hv, n4.same rfl hv, n5.same rfl hv, n6.same rfl hv⟩, ⟨z1.moved ha, t1.moved ha⟩, ⟨z2.moved ha, t2.moved ha⟩, ⟨fun i hi => (r1 i hi).same hv.symm, r2.moved ha, r3.moved ha, r4.moved ha⟩⟩
def Pre (E : EE) (σ : Mem) (sz : Nat) (U : State) : Prop := U.heap.size = sz ∧ va_P E.1 vwCl (Wd E σ) U.heap ∧ Glob E sz U U.heap ∧ Apart (eA E)
def Bw (E : EE) (σ : Mem) (t : State) : Prop := va_P E.1 vwCl (Wd E σ) t.heap
theorem Pre.blind {E : EE} {σ : Mem} {sz : Nat} {av : List Value} : FrameBlind (va_Pc av (Pre E σ sz)) := by
  intro a U g mk h
  obtain ⟨h0, h1, h2, h3, h4⟩ := h
  exact ⟨h0, h1, h2, h3.blind rfl, h4⟩
abbrev QI (E : EE) (below : List Frame) (args : Array Value) (s : State) (Q : Int32 → Mem → Prop) : State → Prop := MQ below (va_Qi Q (Bw E) (GA (eA E) s.heap.size)) args s 0 0 (GA (eA E) s.heap.size)
abbrev QL (E : EE) (below : List Frame) (args : Array Value) (s : State) (Q : Int64 → Mem → Prop) : State → Prop := MQ below (va_Ql Q (Bw E) (GA (eA E) s.heap.size)) args s 0 0 (GA (eA E) s.heap.size)
abbrev QV (E : EE) (below : List Frame) (args : Array Value) (s : State) (Q : Mem → Prop) : State → Prop := MQ below (va_Qv Q (Bw E) (GA (eA E) s.heap.size)) args s 0 0 (GA (eA E) s.heap.size)
def CtI (l : Launch) (y : MethodName) (ws : List Cond) (rm : Room) (E : EE) (av : List Value) (σ : Mem) (Q : Int32 → Mem → Prop) : Prop := ∀ sz : Nat, Met l y ws rm (va_Pc av (Pre E σ sz)) (va_Qi Q (Bw E) (GA (eA E) sz)) 0 0 (GA (eA E) sz)
def CtL (l : Launch) (y : MethodName) (ws : List Cond) (rm : Room) (E : EE) (av : List Value) (σ : Mem) (Q : Int64 → Mem → Prop) : Prop := ∀ sz : Nat, Met l y ws rm (va_Pc av (Pre E σ sz)) (va_Ql Q (Bw E) (GA (eA E) sz)) 0 0 (GA (eA E) sz)
def CtV (l : Launch) (y : MethodName) (ws : List Cond) (rm : Room) (E : EE) (av : List Value) (σ : Mem) (Q : Mem → Prop) : Prop := ∀ sz : Nat, Met l y ws rm (va_Pc av (Pre E σ sz)) (va_Qv Q (Bw E) (GA (eA E) sz)) 0 0 (GA (eA E) sz)
/-- what holds throughout a method's body -/
def Cx (E : EE) (p : Program) (s : State) (m : MethodId) (args : Array Value) (meth : Method) (c : Code) (own : String) (ws : List Cond) (cc : ByteArray) (nL : Nat) (ret : Option FieldType) : Prop :=
  p.tables.exec = Jvm.exec ∧ c.code = cc ∧ meth.sig.returnType = ret ∧ c.maxLocals = nL ∧ s.vm.findClass own = some m.cls ∧ (∀ w ∈ ws, w.before args s = true) ∧ meth.locks = false ∧ Glob E s.heap.size s s.heap ∧ Apart (eA E)
/-- the judgement: from pc, with these locals, this stack and this memory, the machine comes to Qf -/
def J (E : EE) (p : Program) (l : Launch) (e : Env) (R : Room) (s : State) (m : MethodId) (args : Array Value) (below : List Frame) (meth : Method) (c : Code) (Qf : State → Prop) (nL pc : Nat) (lv : List (Nat × Value)) (stk : List Value) (σ : Mem) : Prop :=
  ∀ (H : Heap) (locs : List Loc) (ls : Array Slot), va_P E.1 vwCl (Wd E σ) H → va_S (GA (eA E) s.heap.size) s.heap H locs → lv_has ls nL lv → W p l e R s m args below meth c H locs 0 0 Qf (F0 m pc ls stk)
section JJ
variable {E : EE} {p : Program} {l : Launch} {e : Env} {R : Room} {s : State} {m : MethodId} {args : Array Value} {below : List Frame} {meth : Method} {c : Code} {Qf : State → Prop} {nL pc : Nat} {lv : List (Nat × Value)} {stk rest : List Value} {σ : Mem} {own : String} {ws : List Cond} {cc : ByteArray} {ret : Option FieldType}
theorem metI {y : MethodName} {rm : Room} {av : List Value} {Q : Int32 → Mem → Prop} {ws' : List Cond} (hy : plainName y.cls = true) (hw : ws = Cond.code y cc nL ret :: ws') (hn : (lg_sl av).length ≤ nL) (hlv : lv_args 0 av = lv)
    (body : ∀ p e s m args below meth c, Cx E p s m args meth c y.cls ws cc nL ret → J E p l e rm s m args below meth c (QI E below args s Q) nL 0 lv [] σ) : CtI l y ws rm E av σ Q := by
  intro sz
  refine Met.ofW (cc := cc) (maxL := nL) (ret := ret) hy hw ?_
  intro p e s m args below meth c s₁ B hml hv
  obtain ⟨rfl, rfl, hP, hG, hA⟩ := hv
  have hl := lv_entry av (n := nL) hn
  rw [hlv] at hl
  rw [lg_entry_eq]
  exact body p e s m _ below meth c ⟨B.exec, B.bytes, B.returns, hml, findClass_of_methodNamed B.named, atoms_spec (ws := ws) B.pre, B.notSynchronized, hG, hA⟩ _ _ _ hP va_S.rf hl
theorem metL {y : MethodName} {rm : Room} {av : List Value} {Q : Int64 → Mem → Prop} {ws' : List Cond} (hy : plainName y.cls = true) (hw : ws = Cond.code y cc nL ret :: ws') (hn : (lg_sl av).length ≤ nL) (hlv : lv_args 0 av = lv)
    (body : ∀ p e s m args below meth c, Cx E p s m args meth c y.cls ws cc nL ret → J E p l e rm s m args below meth c (QL E below args s Q) nL 0 lv [] σ) : CtL l y ws rm E av σ Q := by
  intro sz
  refine Met.ofW (cc := cc) (maxL := nL) (ret := ret) hy hw ?_
  intro p e s m args below meth c s₁ B hml hv
  obtain ⟨rfl, rfl, hP, hG, hA⟩ := hv
  have hl := lv_entry av (n := nL) hn
  rw [hlv] at hl
  rw [lg_entry_eq]
  exact body p e s m _ below meth c ⟨B.exec, B.bytes, B.returns, hml, findClass_of_methodNamed B.named, atoms_spec (ws := ws) B.pre, B.notSynchronized, hG, hA⟩ _ _ _ hP va_S.rf hl
theorem metV {y : MethodName} {rm : Room} {av : List Value} {Q : Mem → Prop} {ws' : List Cond} (hy : plainName y.cls = true) (hw : ws = Cond.code y cc nL ret :: ws') (hn : (lg_sl av).length ≤ nL) (hlv : lv_args 0 av = lv)
    (body : ∀ p e s m args below meth c, Cx E p s m args meth c y.cls ws cc nL ret → J E p l e rm s m args below meth c (QV E below args s Q) nL 0 lv [] σ) : CtV l y ws rm E av σ Q := by
  intro sz
  refine Met.ofW (cc := cc) (maxL := nL) (ret := ret) hy hw ?_
  intro p e s m args below meth c s₁ B hml hv
  obtain ⟨rfl, rfl, hP, hG, hA⟩ := hv
  have hl := lv_entry av (n := nL) hn
  rw [hlv] at hl
  rw [lg_entry_eq]
  exact body p e s m _ below meth c ⟨B.exec, B.bytes, B.returns, hml, findClass_of_methodNamed B.named, atoms_spec (ws := ws) B.pre, B.notSynchronized, hG, hA⟩ _ _ _ hP va_S.rf hl
theorem j_iret (C : Cx E p s m args meth c own ws cc nL (some .int)) {Q : Int32 → Mem → Prop} {v : Int32} (hdg : decode cc pc = .ok (.ireturn, 1)) (hq : Q v σ) : J E p l e R s m args below meth c (QI E below args s Q) nL pc lv [.int v] σ := by
  obtain ⟨hx, hb, hr, hml, hown, hts, hlocks, hG, hA⟩ := C
  intro H locs ls hP hS hl
  exact W.iret hx hb hr (fun t ht hW => ⟨⟨v, σ, rfl, hq, by unfold Bw; rw [ht]; exact hP⟩, hS.F ht⟩) hS.2.2 hdg hlocks
theorem j_zret (C : Cx E p s m args meth c own ws cc nL (some .boolean)) {Q : Int32 → Mem → Prop} {v : Int32} (hdg : decode cc pc = .ok (.ireturn, 1)) (hn : v = 0 ∨ v = 1) (hq : Q v σ) : J E p l e R s m args below meth c (QI E below args s Q) nL pc lv [.int v] σ := by
  obtain ⟨hx, hb, hr, hml, hown, hts, hlocks, hG, hA⟩ := C
  intro H locs ls hP hS hl
  exact W.zret hx hb hr (by rcases hn with rfl | rfl <;> rfl) (fun t ht hW => ⟨⟨v, σ, rfl, hq, by unfold Bw; rw [ht]; exact hP⟩, hS.F ht⟩) hS.2.2 hdg hlocks
theorem j_lret (C : Cx E p s m args meth c own ws cc nL (some .long)) {Q : Int64 → Mem → Prop} {v : Int64} (hdg : decode cc pc = .ok (.lreturn, 1)) (hq : Q v σ) : J E p l e R s m args below meth c (QL E below args s Q) nL pc lv [.long v] σ := by
  obtain ⟨hx, hb, hr, hml, hown, hts, hlocks, hG, hA⟩ := C
  intro H locs ls hP hS hl
  exact W.lret hx hb hr (fun t ht hW => ⟨⟨v, σ, rfl, hq, by unfold Bw; rw [ht]; exact hP⟩, hS.F ht⟩) hS.2.2 hdg hlocks
theorem j_vret (C : Cx E p s m args meth c own ws cc nL none) {Q : Mem → Prop} (hdg : decode cc pc = .ok (.return_, 1)) (hq : Q σ) : J E p l e R s m args below meth c (QV E below args s Q) nL pc lv [] σ := by
  obtain ⟨hx, hb, hr, hml, hown, hts, hlocks, hG, hA⟩ := C
  intro H locs ls hP hS hl
  exact W.vret hx hb hr (fun t ht hW => ⟨⟨σ, rfl, hq, by unfold Bw; rw [ht]; exact hP⟩, hS.F ht⟩) hS.2.2 hdg hlocks
theorem j_sub (ks : List Nat) {lv' : List (Nat × Value)} (hk : lv_pick lv ks = lv') (k : J E p l e R s m args below meth c Qf nL pc lv' stk σ) : J E p l e R s m args below meth c Qf nL pc lv stk σ :=
  fun H locs ls hP hS hl => k H locs ls hP hS (lv_sub hl ks hk)
theorem j_topi {x : Int32} (k : ∀ y : Int32, y = x → J E p l e R s m args below meth c Qf nL pc lv (.int y :: rest) σ) : J E p l e R s m args below meth c Qf nL pc lv (.int x :: rest) σ := k x rfl
theorem j_topl {x : Int64} (k : ∀ y : Int64, y = x → J E p l e R s m args below meth c Qf nL pc lv (.long y :: rest) σ) : J E p l e R s m args below meth c Qf nL pc lv (.long x :: rest) σ := k x rfl
theorem j_mem (k : ∀ τ : Mem, τ = σ → J E p l e R s m args below meth c Qf nL pc lv stk τ) : J E p l e R s m args below meth c Qf nL pc lv stk σ := k σ rfl
theorem j_iconst (C : Cx E p s m args meth c own ws cc nL ret) {n : Int} {v : Int32} (hdg : decode cc pc = .ok (.iconst n, 1)) (hv : Int32.ofInt n = v) (k : J E p l e R s m args below meth c Qf nL (pc + 1) lv (.int v :: stk) σ) : J E p l e R s m args below meth c Qf nL (pc) lv (stk) σ :=
  fun H locs ls hP hS hl => lv_iconst C.1 C.2.1 hdg hv (k H locs ls hP hS hl)
theorem j_bipush (C : Cx E p s m args meth c own ws cc nL ret) {n : Int} {v : Int32} (hdg : decode cc pc = .ok (.bipush n, 2)) (hv : (Int8.ofInt n).toInt32 = v) (k : J E p l e R s m args below meth c Qf nL (pc + 2) lv (.int v :: stk) σ) : J E p l e R s m args below meth c Qf nL (pc) lv (stk) σ :=
  fun H locs ls hP hS hl => lv_bipush C.1 C.2.1 hdg hv (k H locs ls hP hS hl)
theorem j_sipush (C : Cx E p s m args meth c own ws cc nL ret) {n : Int} {v : Int32} (hdg : decode cc pc = .ok (.sipush n, 3)) (hv : (Int16.ofInt n).toInt32 = v) (k : J E p l e R s m args below meth c Qf nL (pc + 3) lv (.int v :: stk) σ) : J E p l e R s m args below meth c Qf nL (pc) lv (stk) σ :=
  fun H locs ls hP hS hl => lv_sipush C.1 C.2.1 hdg hv (k H locs ls hP hS hl)
theorem j_lconst (C : Cx E p s m args meth c own ws cc nL ret) {n : Fin 2} {v : Int64} (hdg : decode cc pc = .ok (.lconst n, 1)) (hv : Int64.ofNat (n : Nat) = v) (k : J E p l e R s m args below meth c Qf nL (pc + 1) lv (.long v :: stk) σ) : J E p l e R s m args below meth c Qf nL (pc) lv (stk) σ :=
  fun H locs ls hP hS hl => lv_lconst C.1 C.2.1 hdg hv (k H locs ls hP hS hl)
theorem j_iload_n (C : Cx E p s m args meth c own ws cc nL ret) {q : Fin 4} (i : Nat) {x : Int32} (hdg : decode cc pc = .ok (.iload_n q, 1)) (hi : (q : Nat) = i) (z : Nat) (hz : lv[z]? = some (i, .int x)) (k : J E p l e R s m args below meth c Qf nL (pc + 1) lv (.int x :: stk) σ) : J E p l e R s m args below meth c Qf nL (pc) lv (stk) σ :=
  fun H locs ls hP hS hl => lv_iload_n C.1 C.2.1 hdg hi (lv_at hl z hz) (k H locs ls hP hS hl)
theorem j_iload (C : Cx E p s m args meth c own ws cc nL ret) (i : Nat) {x : Int32} (hdg : decode cc pc = .ok (.iload i, 2)) (z : Nat) (hz : lv[z]? = some (i, .int x)) (k : J E p l e R s m args below meth c Qf nL (pc + 2) lv (.int x :: stk) σ) : J E p l e R s m args below meth c Qf nL (pc) lv (stk) σ :=
  fun H locs ls hP hS hl => lv_iload C.1 C.2.1 hdg (lv_at hl z hz) (k H locs ls hP hS hl)
theorem j_istore_n (C : Cx E p s m args meth c own ws cc nL ret) {q : Fin 4} (i : Nat) {x : Int32} {lv' : List (Nat × Value)} (hdg : decode cc pc = .ok (.istore_n q, 1)) (hi : (q : Nat) = i) (hn : i < nL) (hv : (i, Value.int x) :: lv.filter (fun q => !(q.1 == i) && !(q.1 + 1 == i && q.2.category == 2)) = lv') (k : J E p l e R s m args below meth c Qf nL (pc + 1) lv' (stk) σ) : J E p l e R s m args below meth c Qf nL (pc) lv (.int x :: stk) σ :=
  fun H locs ls hP hS hl => lv_istore_n C.1 C.2.1 hdg hi hl hn hv (fun ls' hl' => k H locs ls' hP hS hl')
theorem j_istore (C : Cx E p s m args meth c own ws cc nL ret) (i : Nat) {x : Int32} {lv' : List (Nat × Value)} (hdg : decode cc pc = .ok (.istore i, 2)) (hn : i < nL) (hv : (i, Value.int x) :: lv.filter (fun q => !(q.1 == i) && !(q.1 + 1 == i && q.2.category == 2)) = lv') (k : J E p l e R s m args below meth c Qf nL (pc + 2) lv' (stk) σ) : J E p l e R s m args below meth c Qf nL (pc) lv (.int x :: stk) σ :=
  fun H locs ls hP hS hl => lv_istore C.1 C.2.1 hdg hl hn hv (fun ls' hl' => k H locs ls' hP hS hl')
theorem j_lload_n (C : Cx E p s m args meth c own ws cc nL ret) {q : Fin 4} (i : Nat) {x : Int64} (hdg : decode cc pc = .ok (.lload_n q, 1)) (hi : (q : Nat) = i) (z : Nat) (hz : lv[z]? = some (i, .long x)) (k : J E p l e R s m args below meth c Qf nL (pc + 1) lv (.long x :: stk) σ) : J E p l e R s m args below meth c Qf nL (pc) lv (stk) σ :=
  fun H locs ls hP hS hl => lv_lload_n C.1 C.2.1 hdg hi (lv_at hl z hz) (k H locs ls hP hS hl)
theorem j_lload (C : Cx E p s m args meth c own ws cc nL ret) (i : Nat) {x : Int64} (hdg : decode cc pc = .ok (.lload i, 2)) (z : Nat) (hz : lv[z]? = some (i, .long x)) (k : J E p l e R s m args below meth c Qf nL (pc + 2) lv (.long x :: stk) σ) : J E p l e R s m args below meth c Qf nL (pc) lv (stk) σ :=
  fun H locs ls hP hS hl => lv_lload C.1 C.2.1 hdg (lv_at hl z hz) (k H locs ls hP hS hl)
theorem j_lstore_n (C : Cx E p s m args meth c own ws cc nL ret) {q : Fin 4} (i : Nat) {x : Int64} {lv' : List (Nat × Value)} (hdg : decode cc pc = .ok (.lstore_n q, 1)) (hi : (q : Nat) = i) (hn : i + 1 < nL) (hv : (i, Value.long x) :: lv.filter (fun q => !(q.1 == i) && (!(q.1 == i + 1) && !(q.1 + 1 == i && q.2.category == 2))) = lv') (k : J E p l e R s m args below meth c Qf nL (pc + 1) lv' (stk) σ) : J E p l e R s m args below meth c Qf nL (pc) lv (.long x :: stk) σ :=
  fun H locs ls hP hS hl => lv_lstore_n C.1 C.2.1 hdg hi hl hn hv (fun ls' hl' => k H locs ls' hP hS hl')
theorem j_lstore (C : Cx E p s m args meth c own ws cc nL ret) (i : Nat) {x : Int64} {lv' : List (Nat × Value)} (hdg : decode cc pc = .ok (.lstore i, 2)) (hn : i + 1 < nL) (hv : (i, Value.long x) :: lv.filter (fun q => !(q.1 == i) && (!(q.1 == i + 1) && !(q.1 + 1 == i && q.2.category == 2))) = lv') (k : J E p l e R s m args below meth c Qf nL (pc + 2) lv' (stk) σ) : J E p l e R s m args below meth c Qf nL (pc) lv (.long x :: stk) σ :=
  fun H locs ls hP hS hl => lv_lstore C.1 C.2.1 hdg hl hn hv (fun ls' hl' => k H locs ls' hP hS hl')
theorem j_aload_n (C : Cx E p s m args meth c own ws cc nL ret) {q : Fin 4} (i : Nat) {x : Nat} (hdg : decode cc pc = .ok (.aload_n q, 1)) (hi : (q : Nat) = i) (z : Nat) (hz : lv[z]? = some (i, .ref x)) (k : J E p l e R s m args below meth c Qf nL (pc + 1) lv (.ref x :: stk) σ) : J E p l e R s m args below meth c Qf nL (pc) lv (stk) σ :=
  fun H locs ls hP hS hl => lv_aload_n C.1 C.2.1 hdg hi (lv_at hl z hz) (k H locs ls hP hS hl)
theorem j_aload (C : Cx E p s m args meth c own ws cc nL ret) (i : Nat) {x : Nat} (hdg : decode cc pc = .ok (.aload i, 2)) (z : Nat) (hz : lv[z]? = some (i, .ref x)) (k : J E p l e R s m args below meth c Qf nL (pc + 2) lv (.ref x :: stk) σ) : J E p l e R s m args below meth c Qf nL (pc) lv (stk) σ :=
  fun H locs ls hP hS hl => lv_aload C.1 C.2.1 hdg (lv_at hl z hz) (k H locs ls hP hS hl)
theorem j_astore_n (C : Cx E p s m args meth c own ws cc nL ret) {q : Fin 4} (i : Nat) {x : Nat} {lv' : List (Nat × Value)} (hdg : decode cc pc = .ok (.astore_n q, 1)) (hi : (q : Nat) = i) (hn : i < nL) (hv : (i, Value.ref x) :: lv.filter (fun q => !(q.1 == i) && !(q.1 + 1 == i && q.2.category == 2)) = lv') (k : J E p l e R s m args below meth c Qf nL (pc + 1) lv' (stk) σ) : J E p l e R s m args below meth c Qf nL (pc) lv (.ref x :: stk) σ :=
  fun H locs ls hP hS hl => lv_astore_n C.1 C.2.1 hdg hi hl hn hv (fun ls' hl' => k H locs ls' hP hS hl')
theorem j_astore (C : Cx E p s m args meth c own ws cc nL ret) (i : Nat) {x : Nat} {lv' : List (Nat × Value)} (hdg : decode cc pc = .ok (.astore i, 2)) (hn : i < nL) (hv : (i, Value.ref x) :: lv.filter (fun q => !(q.1 == i) && !(q.1 + 1 == i && q.2.category == 2)) = lv') (k : J E p l e R s m args below meth c Qf nL (pc + 2) lv' (stk) σ) : J E p l e R s m args below meth c Qf nL (pc) lv (.ref x :: stk) σ :=
  fun H locs ls hP hS hl => lv_astore C.1 C.2.1 hdg hl hn hv (fun ls' hl' => k H locs ls' hP hS hl')
theorem j_iinc (C : Cx E p s m args meth c own ws cc nL ret) (i : Nat) {n : Int} {x v : Int32} {lv' : List (Nat × Value)} (hdg : decode cc pc = .ok (.iinc i n, 3)) (z : Nat) (hz : lv[z]? = some (i, .int x)) (hx : x + Int32.ofInt n = v) (hn : i < nL) (hv : (i, Value.int v) :: lv.filter (fun q => !(q.1 == i) && !(q.1 + 1 == i && q.2.category == 2)) = lv') (k : J E p l e R s m args below meth c Qf nL (pc + 3) lv' (stk) σ) : J E p l e R s m args below meth c Qf nL (pc) lv (stk) σ :=
  fun H locs ls hP hS hl => lv_iinc C.1 C.2.1 hdg hl hz hx hn hv (fun ls' hl' => k H locs ls' hP hS hl')
theorem j_iadd (C : Cx E p s m args meth c own ws cc nL ret) {x y : Int32} (hdg : decode cc pc = .ok (.iadd, 1))  (k : J E p l e R s m args below meth c Qf nL (pc + 1) lv (.int (x + y) :: stk) σ) : J E p l e R s m args below meth c Qf nL (pc) lv (.int y :: .int x :: stk) σ :=
  fun H locs ls hP hS hl => lv_iadd C.1 C.2.1 hdg  (k H locs ls hP hS hl)
theorem j_isub (C : Cx E p s m args meth c own ws cc nL ret) {x y : Int32} (hdg : decode cc pc = .ok (.isub, 1))  (k : J E p l e R s m args below meth c Qf nL (pc + 1) lv (.int (x - y) :: stk) σ) : J E p l e R s m args below meth c Qf nL (pc) lv (.int y :: .int x :: stk) σ :=
  fun H locs ls hP hS hl => lv_isub C.1 C.2.1 hdg  (k H locs ls hP hS hl)
theorem j_imul (C : Cx E p s m args meth c own ws cc nL ret) {x y : Int32} (hdg : decode cc pc = .ok (.imul, 1))  (k : J E p l e R s m args below meth c Qf nL (pc + 1) lv (.int (x * y) :: stk) σ) : J E p l e R s m args below meth c Qf nL (pc) lv (.int y :: .int x :: stk) σ :=
  fun H locs ls hP hS hl => lv_imul C.1 C.2.1 hdg  (k H locs ls hP hS hl)
theorem j_iand (C : Cx E p s m args meth c own ws cc nL ret) {x y : Int32} (hdg : decode cc pc = .ok (.iand, 1))  (k : J E p l e R s m args below meth c Qf nL (pc + 1) lv (.int (x &&& y) :: stk) σ) : J E p l e R s m args below meth c Qf nL (pc) lv (.int y :: .int x :: stk) σ :=
  fun H locs ls hP hS hl => lv_iand C.1 C.2.1 hdg  (k H locs ls hP hS hl)
theorem j_ior (C : Cx E p s m args meth c own ws cc nL ret) {x y : Int32} (hdg : decode cc pc = .ok (.ior, 1))  (k : J E p l e R s m args below meth c Qf nL (pc + 1) lv (.int (x ||| y) :: stk) σ) : J E p l e R s m args below meth c Qf nL (pc) lv (.int y :: .int x :: stk) σ :=
  fun H locs ls hP hS hl => lv_ior C.1 C.2.1 hdg  (k H locs ls hP hS hl)
theorem j_ishl (C : Cx E p s m args meth c own ws cc nL ret) {x y : Int32} (hdg : decode cc pc = .ok (.ishl, 1))  (k : J E p l e R s m args below meth c Qf nL (pc + 1) lv (.int (x <<< (y &&& 31)) :: stk) σ) : J E p l e R s m args below meth c Qf nL (pc) lv (.int y :: .int x :: stk) σ :=
  fun H locs ls hP hS hl => lv_ishl C.1 C.2.1 hdg  (k H locs ls hP hS hl)
theorem j_ishr (C : Cx E p s m args meth c own ws cc nL ret) {x y : Int32} (hdg : decode cc pc = .ok (.ishr, 1))  (k : J E p l e R s m args below meth c Qf nL (pc + 1) lv (.int (x >>> (y &&& 31)) :: stk) σ) : J E p l e R s m args below meth c Qf nL (pc) lv (.int y :: .int x :: stk) σ :=
  fun H locs ls hP hS hl => lv_ishr C.1 C.2.1 hdg  (k H locs ls hP hS hl)
theorem j_iushr (C : Cx E p s m args meth c own ws cc nL ret) {x y v : Int32} (hdg : decode cc pc = .ok (.iushr, 1)) (hv : (x.toUInt32 >>> (y.toUInt32 &&& Int32.toUInt32 31)).toInt32 = v) (k : J E p l e R s m args below meth c Qf nL (pc + 1) lv (.int v :: stk) σ) : J E p l e R s m args below meth c Qf nL (pc) lv (.int y :: .int x :: stk) σ :=
  fun H locs ls hP hS hl => lv_iushr C.1 C.2.1 hdg hv (k H locs ls hP hS hl)
theorem j_idiv (C : Cx E p s m args meth c own ws cc nL ret) {x y : Int32} (hdg : decode cc pc = .ok (.idiv, 1)) (hne : ¬ y = 0) (k : J E p l e R s m args below meth c Qf nL (pc + 1) lv (.int (x / y) :: stk) σ) : J E p l e R s m args below meth c Qf nL (pc) lv (.int y :: .int x :: stk) σ :=
  fun H locs ls hP hS hl => lv_idiv C.1 C.2.1 hdg hne (k H locs ls hP hS hl)
theorem j_irem (C : Cx E p s m args meth c own ws cc nL ret) {x y : Int32} (hdg : decode cc pc = .ok (.irem, 1)) (hne : ¬ y = 0) (k : J E p l e R s m args below meth c Qf nL (pc + 1) lv (.int (x - x / y * y) :: stk) σ) : J E p l e R s m args below meth c Qf nL (pc) lv (.int y :: .int x :: stk) σ :=
  fun H locs ls hP hS hl => lv_irem C.1 C.2.1 hdg hne (k H locs ls hP hS hl)
theorem j_ladd (C : Cx E p s m args meth c own ws cc nL ret) {x y : Int64} (hdg : decode cc pc = .ok (.ladd, 1))  (k : J E p l e R s m args below meth c Qf nL (pc + 1) lv (.long (x + y) :: stk) σ) : J E p l e R s m args below meth c Qf nL (pc) lv (.long y :: .long x :: stk) σ :=
  fun H locs ls hP hS hl => lv_ladd C.1 C.2.1 hdg  (k H locs ls hP hS hl)
theorem j_lmul (C : Cx E p s m args meth c own ws cc nL ret) {x y : Int64} (hdg : decode cc pc = .ok (.lmul, 1))  (k : J E p l e R s m args below meth c Qf nL (pc + 1) lv (.long (x * y) :: stk) σ) : J E p l e R s m args below meth c Qf nL (pc) lv (.long y :: .long x :: stk) σ :=
  fun H locs ls hP hS hl => lv_lmul C.1 C.2.1 hdg  (k H locs ls hP hS hl)
theorem j_ldiv (C : Cx E p s m args meth c own ws cc nL ret) {x y : Int64} (hdg : decode cc pc = .ok (.ldiv, 1)) (hne : ¬ y = 0) (k : J E p l e R s m args below meth c Qf nL (pc + 1) lv (.long (x / y) :: stk) σ) : J E p l e R s m args below meth c Qf nL (pc) lv (.long y :: .long x :: stk) σ :=
  fun H locs ls hP hS hl => lv_ldiv C.1 C.2.1 hdg hne (k H locs ls hP hS hl)
theorem j_lrem (C : Cx E p s m args meth c own ws cc nL ret) {x y : Int64} (hdg : decode cc pc = .ok (.lrem, 1)) (hne : ¬ y = 0) (k : J E p l e R s m args below meth c Qf nL (pc + 1) lv (.long (x - x / y * y) :: stk) σ) : J E p l e R s m args below meth c Qf nL (pc) lv (.long y :: .long x :: stk) σ :=
  fun H locs ls hP hS hl => lv_lrem C.1 C.2.1 hdg hne (k H locs ls hP hS hl)
theorem j_i2l (C : Cx E p s m args meth c own ws cc nL ret) {x : Int32} {v : Int64} (hdg : decode cc pc = .ok (.i2l, 1)) (hv : x.toInt64 = v) (k : J E p l e R s m args below meth c Qf nL (pc + 1) lv (.long v :: stk) σ) : J E p l e R s m args below meth c Qf nL (pc) lv (.int x :: stk) σ :=
  fun H locs ls hP hS hl => lv_i2l C.1 C.2.1 hdg hv (k H locs ls hP hS hl)
theorem j_l2i (C : Cx E p s m args meth c own ws cc nL ret) {x : Int64} {v : Int32} (hdg : decode cc pc = .ok (.l2i, 1)) (hv : x.toInt32 = v) (k : J E p l e R s m args below meth c Qf nL (pc + 1) lv (.int v :: stk) σ) : J E p l e R s m args below meth c Qf nL (pc) lv (.long x :: stk) σ :=
  fun H locs ls hP hS hl => lv_l2i C.1 C.2.1 hdg hv (k H locs ls hP hS hl)
theorem j_i2b (C : Cx E p s m args meth c own ws cc nL ret) {x v : Int32} (hdg : decode cc pc = .ok (.i2b, 1)) (hv : x.toInt8.toInt32 = v) (k : J E p l e R s m args below meth c Qf nL (pc + 1) lv (.int v :: stk) σ) : J E p l e R s m args below meth c Qf nL (pc) lv (.int x :: stk) σ :=
  fun H locs ls hP hS hl => lv_i2b C.1 C.2.1 hdg hv (k H locs ls hP hS hl)
theorem j_i2s (C : Cx E p s m args meth c own ws cc nL ret) {x v : Int32} (hdg : decode cc pc = .ok (.i2s, 1)) (hv : x.toInt16.toInt32 = v) (k : J E p l e R s m args below meth c Qf nL (pc + 1) lv (.int v :: stk) σ) : J E p l e R s m args below meth c Qf nL (pc) lv (.int x :: stk) σ :=
  fun H locs ls hP hS hl => lv_i2s C.1 C.2.1 hdg hv (k H locs ls hP hS hl)
theorem j_dup (C : Cx E p s m args meth c own ws cc nL ret) {va : Value} (hdg : decode cc pc = .ok (.dup, 1)) (hva : va.category = 1) (k : J E p l e R s m args below meth c Qf nL (pc + 1) lv (va :: va :: stk) σ) : J E p l e R s m args below meth c Qf nL (pc) lv (va :: stk) σ :=
  fun H locs ls hP hS hl => lv_dup C.1 C.2.1 hdg hva (k H locs ls hP hS hl)
theorem j_pop (C : Cx E p s m args meth c own ws cc nL ret) {va : Value} (hdg : decode cc pc = .ok (.pop, 1)) (hva : va.category = 1) (k : J E p l e R s m args below meth c Qf nL (pc + 1) lv (stk) σ) : J E p l e R s m args below meth c Qf nL (pc) lv (va :: stk) σ :=
  fun H locs ls hP hS hl => lv_pop C.1 C.2.1 hdg hva (k H locs ls hP hS hl)
theorem j_dup2 (C : Cx E p s m args meth c own ws cc nL ret) {va vb : Value} (hdg : decode cc pc = .ok (.dup2, 1)) (hva : va.category = 1) (hvb : vb.category = 1) (k : J E p l e R s m args below meth c Qf nL (pc + 1) lv (va :: vb :: va :: vb :: stk) σ) : J E p l e R s m args below meth c Qf nL (pc) lv (va :: vb :: stk) σ :=
  fun H locs ls hP hS hl => lv_dup2_11 C.1 C.2.1 hdg hva hvb (k H locs ls hP hS hl)
theorem j_lcmp (C : Cx E p s m args meth c own ws cc nL ret) {x y : Int64} (hdg : decode cc pc = .ok (.lcmp, 1)) (k : J E p l e R s m args below meth c Qf nL (pc + 1) lv (.int (lg_cmp x y) :: stk) σ) : J E p l e R s m args below meth c Qf nL (pc) lv (.long y :: .long x :: stk) σ :=
  fun H locs ls hP hS hl => W.lcmp C.1 C.2.1 hdg (k H locs ls hP hS hl)
theorem j_ldc (C : Cx E p s m args meth c own ws cc nL ret) {idx : Nat} (v : Int32) (hdg : decode cc pc = .ok (.ldc idx, 2)) (hw : Cond.constant own idx v ∈ ws) (k : J E p l e R s m args below meth c Qf nL (pc + 2) lv (.int v :: stk) σ) : J E p l e R s m args below meth c Qf nL (pc) lv (stk) σ :=
  fun H locs ls hP hS hl => lv_ldc C.1 C.2.1 C.2.2.2.2.1 (C.2.2.2.2.2.1 _ hw) hdg (k H locs ls hP hS hl)
theorem j_ldcw (C : Cx E p s m args meth c own ws cc nL ret) {idx : Nat} (v : Int32) (hdg : decode cc pc = .ok (.ldc_w idx, 3)) (hw : Cond.constant own idx v ∈ ws) (k : J E p l e R s m args below meth c Qf nL (pc + 3) lv (.int v :: stk) σ) : J E p l e R s m args below meth c Qf nL (pc) lv (stk) σ :=
  fun H locs ls hP hS hl => lv_ldcw C.1 C.2.1 C.2.2.2.2.1 (C.2.2.2.2.2.1 _ hw) hdg (k H locs ls hP hS hl)
theorem j_ldc2 (C : Cx E p s m args meth c own ws cc nL ret) {idx : Nat} (v : Int64) (hdg : decode cc pc = .ok (.ldc2_w idx, 3)) (hw : Cond.constantLong own idx v ∈ ws) (k : J E p l e R s m args below meth c Qf nL (pc + 3) lv (.long v :: stk) σ) : J E p l e R s m args below meth c Qf nL (pc) lv (stk) σ :=
  fun H locs ls hP hS hl => lv_ldc2 C.1 C.2.1 C.2.2.2.2.1 (C.2.2.2.2.2.1 _ hw) hdg (k H locs ls hP hS hl)
theorem j_goto (C : Cx E p s m args meth c own ws cc nL ret) {off : Int} (tgt : Nat) (hdg : decode cc pc = .ok (.goto off, 3)) (ht : (pc : Int) + off = (tgt : Int)) (k : J E p l e R s m args below meth c Qf nL (tgt) lv (stk) σ) : J E p l e R s m args below meth c Qf nL (pc) lv (stk) σ :=
  fun H locs ls hP hS hl => lv_goto C.1 C.2.1 hdg ht (k H locs ls hP hS hl)
theorem j_icmp_eq (C : Cx E p s m args meth c own ws cc nL ret) {x y : Int32} {off : Int} (tgt : Nat) (hdg : decode cc pc = .ok (.if_icmp .eq off, 3)) (ht : (pc : Int) + off = (tgt : Int)) (kt : x = y → J E p l e R s m args below meth c Qf nL (tgt) lv (stk) σ) (kf : ¬ x = y → J E p l e R s m args below meth c Qf nL (pc + 3) lv (stk) σ) : J E p l e R s m args below meth c Qf nL (pc) lv (.int y :: .int x :: stk) σ :=
  fun H locs ls hP hS hl => lv_icmp_eq C.1 C.2.1 hdg ht (fun h => kt h H locs ls hP hS hl) (fun h => kf h H locs ls hP hS hl)
theorem j_if_eq (C : Cx E p s m args meth c own ws cc nL ret) {x : Int32} {off : Int} (tgt : Nat) (hdg : decode cc pc = .ok (.ifCond .eq off, 3)) (ht : (pc : Int) + off = (tgt : Int)) (kt : x = 0 → J E p l e R s m args below meth c Qf nL (tgt) lv (stk) σ) (kf : ¬ x = 0 → J E p l e R s m args below meth c Qf nL (pc + 3) lv (stk) σ) : J E p l e R s m args below meth c Qf nL (pc) lv (.int x :: stk) σ :=
  fun H locs ls hP hS hl => lv_if_eq C.1 C.2.1 hdg ht (fun h => kt h H locs ls hP hS hl) (fun h => kf h H locs ls hP hS hl)
theorem j_icmp_ne (C : Cx E p s m args meth c own ws cc nL ret) {x y : Int32} {off : Int} (tgt : Nat) (hdg : decode cc pc = .ok (.if_icmp .ne off, 3)) (ht : (pc : Int) + off = (tgt : Int)) (kt : ¬ x = y → J E p l e R s m args below meth c Qf nL (tgt) lv (stk) σ) (kf : x = y → J E p l e R s m args below meth c Qf nL (pc + 3) lv (stk) σ) : J E p l e R s m args below meth c Qf nL (pc) lv (.int y :: .int x :: stk) σ :=
  fun H locs ls hP hS hl => lv_icmp_ne C.1 C.2.1 hdg ht (fun h => kt h H locs ls hP hS hl) (fun h => kf h H locs ls hP hS hl)
theorem j_if_ne (C : Cx E p s m args meth c own ws cc nL ret) {x : Int32} {off : Int} (tgt : Nat) (hdg : decode cc pc = .ok (.ifCond .ne off, 3)) (ht : (pc : Int) + off = (tgt : Int)) (kt : ¬ x = 0 → J E p l e R s m args below meth c Qf nL (tgt) lv (stk) σ) (kf : x = 0 → J E p l e R s m args below meth c Qf nL (pc + 3) lv (stk) σ) : J E p l e R s m args below meth c Qf nL (pc) lv (.int x :: stk) σ :=
  fun H locs ls hP hS hl => lv_if_ne C.1 C.2.1 hdg ht (fun h => kt h H locs ls hP hS hl) (fun h => kf h H locs ls hP hS hl)
theorem j_icmp_lt (C : Cx E p s m args meth c own ws cc nL ret) {x y : Int32} {off : Int} (tgt : Nat) (hdg : decode cc pc = .ok (.if_icmp .lt off, 3)) (ht : (pc : Int) + off = (tgt : Int)) (kt : x < y → J E p l e R s m args below meth c Qf nL (tgt) lv (stk) σ) (kf : ¬ x < y → J E p l e R s m args below meth c Qf nL (pc + 3) lv (stk) σ) : J E p l e R s m args below meth c Qf nL (pc) lv (.int y :: .int x :: stk) σ :=
  fun H locs ls hP hS hl => lv_icmp_lt C.1 C.2.1 hdg ht (fun h => kt h H locs ls hP hS hl) (fun h => kf h H locs ls hP hS hl)
theorem j_if_lt (C : Cx E p s m args meth c own ws cc nL ret) {x : Int32} {off : Int} (tgt : Nat) (hdg : decode cc pc = .ok (.ifCond .lt off, 3)) (ht : (pc : Int) + off = (tgt : Int)) (kt : x < 0 → J E p l e R s m args below meth c Qf nL (tgt) lv (stk) σ) (kf : ¬ x < 0 → J E p l e R s m args below meth c Qf nL (pc + 3) lv (stk) σ) : J E p l e R s m args below meth c Qf nL (pc) lv (.int x :: stk) σ :=
  fun H locs ls hP hS hl => lv_if_lt C.1 C.2.1 hdg ht (fun h => kt h H locs ls hP hS hl) (fun h => kf h H locs ls hP hS hl)
theorem j_icmp_ge (C : Cx E p s m args meth c own ws cc nL ret) {x y : Int32} {off : Int} (tgt : Nat) (hdg : decode cc pc = .ok (.if_icmp .ge off, 3)) (ht : (pc : Int) + off = (tgt : Int)) (kt : y ≤ x → J E p l e R s m args below meth c Qf nL (tgt) lv (stk) σ) (kf : ¬ y ≤ x → J E p l e R s m args below meth c Qf nL (pc + 3) lv (stk) σ) : J E p l e R s m args below meth c Qf nL (pc) lv (.int y :: .int x :: stk) σ :=
  fun H locs ls hP hS hl => lv_icmp_ge C.1 C.2.1 hdg ht (fun h => kt h H locs ls hP hS hl) (fun h => kf h H locs ls hP hS hl)
theorem j_if_ge (C : Cx E p s m args meth c own ws cc nL ret) {x : Int32} {off : Int} (tgt : Nat) (hdg : decode cc pc = .ok (.ifCond .ge off, 3)) (ht : (pc : Int) + off = (tgt : Int)) (kt : 0 ≤ x → J E p l e R s m args below meth c Qf nL (tgt) lv (stk) σ) (kf : ¬ 0 ≤ x → J E p l e R s m args below meth c Qf nL (pc + 3) lv (stk) σ) : J E p l e R s m args below meth c Qf nL (pc) lv (.int x :: stk) σ :=
  fun H locs ls hP hS hl => lv_if_ge C.1 C.2.1 hdg ht (fun h => kt h H locs ls hP hS hl) (fun h => kf h H locs ls hP hS hl)
theorem j_icmp_gt (C : Cx E p s m args meth c own ws cc nL ret) {x y : Int32} {off : Int} (tgt : Nat) (hdg : decode cc pc = .ok (.if_icmp .gt off, 3)) (ht : (pc : Int) + off = (tgt : Int)) (kt : y < x → J E p l e R s m args below meth c Qf nL (tgt) lv (stk) σ) (kf : ¬ y < x → J E p l e R s m args below meth c Qf nL (pc + 3) lv (stk) σ) : J E p l e R s m args below meth c Qf nL (pc) lv (.int y :: .int x :: stk) σ :=
  fun H locs ls hP hS hl => lv_icmp_gt C.1 C.2.1 hdg ht (fun h => kt h H locs ls hP hS hl) (fun h => kf h H locs ls hP hS hl)
theorem j_if_gt (C : Cx E p s m args meth c own ws cc nL ret) {x : Int32} {off : Int} (tgt : Nat) (hdg : decode cc pc = .ok (.ifCond .gt off, 3)) (ht : (pc : Int) + off = (tgt : Int)) (kt : 0 < x → J E p l e R s m args below meth c Qf nL (tgt) lv (stk) σ) (kf : ¬ 0 < x → J E p l e R s m args below meth c Qf nL (pc + 3) lv (stk) σ) : J E p l e R s m args below meth c Qf nL (pc) lv (.int x :: stk) σ :=
  fun H locs ls hP hS hl => lv_if_gt C.1 C.2.1 hdg ht (fun h => kt h H locs ls hP hS hl) (fun h => kf h H locs ls hP hS hl)
theorem j_icmp_le (C : Cx E p s m args meth c own ws cc nL ret) {x y : Int32} {off : Int} (tgt : Nat) (hdg : decode cc pc = .ok (.if_icmp .le off, 3)) (ht : (pc : Int) + off = (tgt : Int)) (kt : x ≤ y → J E p l e R s m args below meth c Qf nL (tgt) lv (stk) σ) (kf : ¬ x ≤ y → J E p l e R s m args below meth c Qf nL (pc + 3) lv (stk) σ) : J E p l e R s m args below meth c Qf nL (pc) lv (.int y :: .int x :: stk) σ :=
  fun H locs ls hP hS hl => lv_icmp_le C.1 C.2.1 hdg ht (fun h => kt h H locs ls hP hS hl) (fun h => kf h H locs ls hP hS hl)
theorem j_if_le (C : Cx E p s m args meth c own ws cc nL ret) {x : Int32} {off : Int} (tgt : Nat) (hdg : decode cc pc = .ok (.ifCond .le off, 3)) (ht : (pc : Int) + off = (tgt : Int)) (kt : x ≤ 0 → J E p l e R s m args below meth c Qf nL (tgt) lv (stk) σ) (kf : ¬ x ≤ 0 → J E p l e R s m args below meth c Qf nL (pc + 3) lv (stk) σ) : J E p l e R s m args below meth c Qf nL (pc) lv (.int x :: stk) σ :=
  fun H locs ls hP hS hl => lv_if_le C.1 C.2.1 hdg ht (fun h => kt h H locs ls hP hS hl) (fun h => kf h H locs ls hP hS hl)
theorem j_tabIn (C : Cx E p s m args meth c own ws cc nL ret) {dflt lo hi : Int} {offs : Array Int} {len : Nat} {x : Int32} {off : Int} (tgt : Nat) (hdg : decode cc pc = .ok (.tableswitch dflt lo hi offs, len)) (v : Int32) (hv : x = v) (h1 : ¬ v.toInt < lo) (h2 : ¬ hi < v.toInt) (ho : offs[(v.toInt - lo).toNat]? = some off) (ht : (pc : Int) + off = (tgt : Int)) (k : J E p l e R s m args below meth c Qf nL (tgt) lv (stk) σ) : J E p l e R s m args below meth c Qf nL (pc) lv (.int x :: stk) σ := by
  subst hv
  exact fun H locs ls hP hS hl => lv_tableIn C.1 C.2.1 hdg h1 h2 ho ht (k H locs ls hP hS hl)
theorem j_tabOut (C : Cx E p s m args meth c own ws cc nL ret) {dflt lo hi : Int} {offs : Array Int} {len : Nat} {x : Int32} (tgt : Nat) (hdg : decode cc pc = .ok (.tableswitch dflt lo hi offs, len)) (h : x.toInt < lo ∨ hi < x.toInt) (ht : (pc : Int) + dflt = (tgt : Int)) (k : J E p l e R s m args below meth c Qf nL (tgt) lv (stk) σ) : J E p l e R s m args below meth c Qf nL (pc) lv (.int x :: stk) σ :=
  fun H locs ls hP hS hl => lv_tableOut C.1 C.2.1 hdg h ht (k H locs ls hP hS hl)
theorem j_lookup (C : Cx E p s m args meth c own ws cc nL ret) {dflt : Int} {ps : Array (Int × Int)} {len : Nat} {x : Int32} {off : Int} (tgt : Nat) (hdg : decode cc pc = .ok (.lookupswitch dflt ps, len)) (hp : (ps.toList.zip (ps.toList.drop 1)).all (fun (a, next) => a.1 < next.1) = true) (ho : Op.lookupswitch.offset ps.toList dflt x.toInt = off) (ht : (pc : Int) + off = (tgt : Int)) (k : J E p l e R s m args below meth c Qf nL (tgt) lv (stk) σ) : J E p l e R s m args below meth c Qf nL (pc) lv (.int x :: stk) σ :=
  fun H locs ls hP hS hl => lv_lookup C.1 C.2.1 hdg hp ho ht (k H locs ls hP hS hl)
theorem sO_at {ci : Nat} {sp : List (Nat × Nat)} {m : Nat → Int32} {ml : Nat → Int64} {j : Nat} {q : Nat × Nat} (h : sp[j]? = some q) : (sp.mapIdx (sV E m ml))[j]? = some (sV E m ml j q) := by
  simp [List.getElem?_mapIdx, h]
theorem j_get (C : Cx E p s m args meth c own ws cc nL ret) {idx ci N : Nat} {Cn : String} {T : u_T} {sp : List (Nat × Nat)} {q : Nat × Nat} (b j : Nat) (hsh : (shp E)[b]? = some (sO E ci sp)) (hsp : sp[j]? = some q) (hc : vwCl[ci]? = some (Cn, T, N)) (hin : ∀ w ∈ u_ws Cn T N, w ∈ ws) (hj : j < N) (hlink : Cond.fieldLink own idx (T j).1 (T j).2.1 (T j).2.2.1 ∈ ws) (hdg : decode cc pc = .ok (.getfield idx, 3)) (k : J E p l e R s m args below meth c Qf nL (pc + 3) lv (sV E (σ.1 b) (σ.2 b) j q :: stk) σ) : J E p l e R s m args below meth c Qf nL (pc) lv (.ref (eA E b) :: stk) σ := by
  obtain ⟨hx, hb, hr, hml, hown, hts, hlocks, hG, hA⟩ := C
  intro H locs ls hP hS hl
  exact va_get (C := Cn) (T := T) (N := N) hx hb hts hin hown hG.1 hP b (Wd_get hsh) hc j hj (hts _ hlink) (fun _ h => h) (sO_at (ci := ci) hsp) hdg (k H locs ls hP hS hl)
theorem j_getI (C : Cx E p s m args meth c own ws cc nL ret) {idx ci N : Nat} {Cn : String} {T : u_T} {sp : List (Nat × Nat)} {z : Nat} (b j : Nat) (hsh : (shp E)[b]? = some (sO E ci sp)) (hsp : sp[j]? = some (0, z)) (hc : vwCl[ci]? = some (Cn, T, N)) (hin : ∀ w ∈ u_ws Cn T N, w ∈ ws) (hj : j < N) (hlink : Cond.fieldLink own idx (T j).1 (T j).2.1 (T j).2.2.1 ∈ ws) (hdg : decode cc pc = .ok (.getfield idx, 3)) (k : J E p l e R s m args below meth c Qf nL (pc + 3) lv (.int (σ.1 b j) :: stk) σ) : J E p l e R s m args below meth c Qf nL (pc) lv (.ref (eA E b) :: stk) σ :=
  j_get C b j hsh hsp hc hin hj hlink hdg k
theorem j_getL (C : Cx E p s m args meth c own ws cc nL ret) {idx ci N : Nat} {Cn : String} {T : u_T} {sp : List (Nat × Nat)} {z : Nat} (b j : Nat) (hsh : (shp E)[b]? = some (sO E ci sp)) (hsp : sp[j]? = some (1, z)) (hc : vwCl[ci]? = some (Cn, T, N)) (hin : ∀ w ∈ u_ws Cn T N, w ∈ ws) (hj : j < N) (hlink : Cond.fieldLink own idx (T j).1 (T j).2.1 (T j).2.2.1 ∈ ws) (hdg : decode cc pc = .ok (.getfield idx, 3)) (k : J E p l e R s m args below meth c Qf nL (pc + 3) lv (.long (σ.2 b j) :: stk) σ) : J E p l e R s m args below meth c Qf nL (pc) lv (.ref (eA E b) :: stk) σ :=
  j_get C b j hsh hsp hc hin hj hlink hdg k
theorem j_getR (C : Cx E p s m args meth c own ws cc nL ret) {idx ci N : Nat} {Cn : String} {T : u_T} {sp : List (Nat × Nat)} (z : Nat) (b j : Nat) (hsh : (shp E)[b]? = some (sO E ci sp)) (hsp : sp[j]? = some (2, z)) (hc : vwCl[ci]? = some (Cn, T, N)) (hin : ∀ w ∈ u_ws Cn T N, w ∈ ws) (hj : j < N) (hlink : Cond.fieldLink own idx (T j).1 (T j).2.1 (T j).2.2.1 ∈ ws) (hdg : decode cc pc = .ok (.getfield idx, 3)) (k : J E p l e R s m args below meth c Qf nL (pc + 3) lv (.ref (eA E z) :: stk) σ) : J E p l e R s m args below meth c Qf nL (pc) lv (.ref (eA E b) :: stk) σ :=
  j_get C b j hsh hsp hc hin hj hlink hdg k
theorem sO_put {ci : Nat} {sp : List (Nat × Nat)} {m : Nat → Int32} {ml : Nat → Int64} {j z : Nat} {v : Int32} (h : sp[j]? = some (0, z)) : sO E ci sp (upd m j v) ml = .inr (ci, (sp.mapIdx (sV E m ml)).set j (.int v)) := by
  have e : sp.mapIdx (sV E (upd m j v) ml) = (sp.mapIdx (sV E m ml)).set j (.int v) := by
    apply List.ext_getElem?
    intro i
    by_cases hi : i = j
    · subst hi
      have hl : i < (sp.mapIdx (sV E m ml)).length := by rw [List.length_mapIdx]; exact (List.getElem?_eq_some_iff.mp h).1
      rw [List.getElem?_set_self hl, sO_at (ci := ci) h]
      simp [sV, upd]
    · rw [List.getElem?_set_ne (fun q => hi q.symm)]
      simp only [List.getElem?_mapIdx]
      cases sp[i]? with
      | none => rfl
      | some q => simp [sV, upd, hi]
  show Sum.inr (ci, _) = _
  rw [e]
theorem sO_putL {ci : Nat} {sp : List (Nat × Nat)} {m : Nat → Int32} {ml : Nat → Int64} {j z : Nat} {v : Int64} (h : sp[j]? = some (1, z)) : sO E ci sp m (vp_updL ml j v) = .inr (ci, (sp.mapIdx (sV E m ml)).set j (.long v)) := by
  have e : sp.mapIdx (sV E m (vp_updL ml j v)) = (sp.mapIdx (sV E m ml)).set j (.long v) := by
    apply List.ext_getElem?
    intro i
    by_cases hi : i = j
    · subst hi
      have hl : i < (sp.mapIdx (sV E m ml)).length := by rw [List.length_mapIdx]; exact (List.getElem?_eq_some_iff.mp h).1
      rw [List.getElem?_set_self hl, sO_at (ci := ci) h]
      simp [sV, vp_updL]
    · rw [List.getElem?_set_ne (fun q => hi q.symm)]
      simp only [List.getElem?_mapIdx]
      cases sp[i]? with
      | none => rfl
      | some q => simp [sV, vp_updL, hi]
  show Sum.inr (ci, _) = _
  rw [e]
theorem j_put (C : Cx E p s m args meth c own ws cc nL ret) {idx ci N : Nat} {Cn : String} {T : u_T} {sp : List (Nat × Nat)} {z : Nat} {v : Int32} {ty : FieldType} (b j : Nat) (hsh : (shp E)[b]? = some (sO E ci sp)) (hsp : sp[j]? = some (0, z)) (hc : vwCl[ci]? = some (Cn, T, N)) (hin : ∀ w ∈ u_ws Cn T N, w ∈ ws) (ty0 : Nat → FieldType) (hty : ∀ k, k < N → parseFieldDescriptor (T k).2.2.1 = some (ty0 k)) (hnm : ∀ a, a < N → ∀ b, b < N → a ≠ b → (T a).2.1 ≠ (T b).2.1) (hj : j < N) (hlink : Cond.fieldLink own idx (T j).1 (T j).2.1 (T j).2.2.1 ∈ ws) (hfin : (T j).2.2.2 = false) (hd : ty0 j = ty) (hn : narrow ty (.int v) = .int v) (hfit : fits ty (.int v) = true) (hdg : decode cc pc = .ok (.putfield idx, 3)) (k : J E p l e R s m args below meth c Qf nL (pc + 3) lv (stk) (st1 σ b j v)) : J E p l e R s m args below meth c Qf nL (pc) lv (.int v :: .ref (eA E b) :: stk) σ := by
  obtain ⟨hx, hb, hr, hml, hown, hts, hlocks, hG, hA⟩ := C
  intro H locs ls hP hS hl
  refine va_put (C := Cn) (T := T) (N := N) hx hb hts hin ty0 hty hnm hown hG.1 hP (Wd_D hA) hS b (Wd_get hsh) hc j hj (hts _ hlink) (fun _ h => h) hfin ((hty j hj).trans (congrArg some hd)) hn hfit (by rw [List.length_mapIdx]; exact (List.getElem?_eq_some_iff.mp hsp).1) hdg (fun H1 locs1 hP1 _ hS1 => ?_)
  refine k H1 locs1 ls ?_ hS1 hl
  rw [Wd_set (σ := σ) hsh (st1 σ b j v) (by rw [st1_same, st1_two]; exact sO_put hsp) (fun a h => st1_off h) (fun _ _ => rfl)] at hP1
  exact hP1
theorem j_putL (C : Cx E p s m args meth c own ws cc nL ret) {idx ci N : Nat} {Cn : String} {T : u_T} {sp : List (Nat × Nat)} {z : Nat} {v : Int64} (b j : Nat) (hsh : (shp E)[b]? = some (sO E ci sp)) (hsp : sp[j]? = some (1, z)) (hc : vwCl[ci]? = some (Cn, T, N)) (hin : ∀ w ∈ u_ws Cn T N, w ∈ ws) (ty0 : Nat → FieldType) (hty : ∀ k, k < N → parseFieldDescriptor (T k).2.2.1 = some (ty0 k)) (hnm : ∀ a, a < N → ∀ b, b < N → a ≠ b → (T a).2.1 ≠ (T b).2.1) (hj : j < N) (hlink : Cond.fieldLink own idx (T j).1 (T j).2.1 (T j).2.2.1 ∈ ws) (hfin : (T j).2.2.2 = false) (hd : ty0 j = .long) (hdg : decode cc pc = .ok (.putfield idx, 3)) (k : J E p l e R s m args below meth c Qf nL (pc + 3) lv (stk) (st2 σ b j v)) : J E p l e R s m args below meth c Qf nL (pc) lv (.long v :: .ref (eA E b) :: stk) σ := by
  obtain ⟨hx, hb, hr, hml, hown, hts, hlocks, hG, hA⟩ := C
  intro H locs ls hP hS hl
  refine va_put (C := Cn) (T := T) (N := N) (v := .long v) hx hb hts hin ty0 hty hnm hown hG.1 hP (Wd_D hA) hS b (Wd_get hsh) hc j hj (hts _ hlink) (fun _ h => h) hfin ((hty j hj).trans (congrArg some hd)) rfl rfl (by rw [List.length_mapIdx]; exact (List.getElem?_eq_some_iff.mp hsp).1) hdg (fun H1 locs1 hP1 _ hS1 => ?_)
  refine k H1 locs1 ls ?_ hS1 hl
  rw [Wd_set (σ := σ) hsh (st2 σ b j v) (by rw [st2_same, st2_one]; exact sO_putL hsp) (fun _ _ => rfl) (fun a h => st2_off h)] at hP1
  exact hP1
theorem j_iald (C : Cx E p s m args meth c own ws cc nL ret) {n : Nat} {i : Int32} (b : Nat) (hsh : (shp E)[b]? = some (sA (eC E 1) n)) (hdg : decode cc pc = .ok (.iaload, 1)) (hin : vp_in i n) (k : J E p l e R s m args below meth c Qf nL (pc + 1) lv (.int (σ.1 b i.toNatClampNeg) :: stk) σ) : J E p l e R s m args below meth c Qf nL (pc) lv (.int i :: .ref (eA E b) :: stk) σ := by
  obtain ⟨hx, hb, hr, hml, hown, hts, hlocks, hG, hA⟩ := C
  intro H locs ls hP hS hl
  exact va_iald hx hb hG.1 hP b 1 (Wd_get hsh) rfl hin hdg (k H locs ls hP hS hl)
theorem j_bald (C : Cx E p s m args meth c own ws cc nL ret) {n : Nat} {i : Int32} (b : Nat) (hsh : (shp E)[b]? = some (sA (eC E 0) n)) (hdg : decode cc pc = .ok (.baload, 1)) (hin : vp_in i n) (k : J E p l e R s m args below meth c Qf nL (pc + 1) lv (.int (σ.1 b i.toNatClampNeg) :: stk) σ) : J E p l e R s m args below meth c Qf nL (pc) lv (.int i :: .ref (eA E b) :: stk) σ := by
  obtain ⟨hx, hb, hr, hml, hown, hts, hlocks, hG, hA⟩ := C
  intro H locs ls hP hS hl
  exact va_bald hx hb hG.1 hP b 0 (Wd_get hsh) rfl hin hdg (k H locs ls hP hS hl)
theorem j_zald (C : Cx E p s m args meth c own ws cc nL ret) {n : Nat} {i : Int32} (b : Nat) (hsh : (shp E)[b]? = some (sA (eC E 2) n)) (hdg : decode cc pc = .ok (.baload, 1)) (hin : vp_in i n) (k : J E p l e R s m args below meth c Qf nL (pc + 1) lv (.int (σ.1 b i.toNatClampNeg) :: stk) σ) : J E p l e R s m args below meth c Qf nL (pc) lv (.int i :: .ref (eA E b) :: stk) σ := by
  obtain ⟨hx, hb, hr, hml, hown, hts, hlocks, hG, hA⟩ := C
  intro H locs ls hP hS hl
  exact va_zald hx hb hG.1 hP b 2 (Wd_get hsh) rfl hin hdg (k H locs ls hP hS hl)
theorem j_iast (C : Cx E p s m args meth c own ws cc nL ret) {n : Nat} {i x : Int32} (b : Nat) (hsh : (shp E)[b]? = some (sA (eC E 1) n)) (hdg : decode cc pc = .ok (.iastore, 1)) (hin : vp_in i n) (k : J E p l e R s m args below meth c Qf nL (pc + 1) lv (stk) (st1 σ b i.toNatClampNeg x)) : J E p l e R s m args below meth c Qf nL (pc) lv (.int x :: .int i :: .ref (eA E b) :: stk) σ := by
  obtain ⟨hx, hb, hr, hml, hown, hts, hlocks, hG, hA⟩ := C
  intro H locs ls hP hS hl
  refine va_iast hx hb hG.1 hP (Wd_D hA) hS b 1 (Wd_get hsh) rfl hin hdg (fun H1 locs1 hP1 _ hS1 => ?_)
  refine k H1 locs1 ls ?_ hS1 hl
  rw [Wd_set hsh (st1 σ b i.toNatClampNeg x) (by rw [st1_same]; rfl) (fun a h => st1_off h) (fun _ _ => rfl)] at hP1
  exact hP1
theorem j_bast (C : Cx E p s m args meth c own ws cc nL ret) {n : Nat} {i x : Int32} (b : Nat) (hsh : (shp E)[b]? = some (sA (eC E 0) n)) (hdg : decode cc pc = .ok (.bastore, 1)) (hin : vp_in i n) (k : J E p l e R s m args below meth c Qf nL (pc + 1) lv (stk) (st1 σ b i.toNatClampNeg (vp_nar .byte x))) : J E p l e R s m args below meth c Qf nL (pc) lv (.int x :: .int i :: .ref (eA E b) :: stk) σ := by
  obtain ⟨hx, hb, hr, hml, hown, hts, hlocks, hG, hA⟩ := C
  intro H locs ls hP hS hl
  refine va_bast hx hb hG.1 hP (Wd_D hA) hS b 0 (Wd_get hsh) rfl hin hdg (fun H1 locs1 hP1 _ hS1 => ?_)
  refine k H1 locs1 ls ?_ hS1 hl
  rw [Wd_set hsh (st1 σ b i.toNatClampNeg (vp_nar .byte x)) (by rw [st1_same]; rfl) (fun a h => st1_off h) (fun _ _ => rfl)] at hP1
  exact hP1
theorem j_zast (C : Cx E p s m args meth c own ws cc nL ret) {n : Nat} {i x : Int32} (b : Nat) (hsh : (shp E)[b]? = some (sA (eC E 2) n)) (hdg : decode cc pc = .ok (.bastore, 1)) (hin : vp_in i n) (k : J E p l e R s m args below meth c Qf nL (pc + 1) lv (stk) (st1 σ b i.toNatClampNeg (vp_nar .boolean x))) : J E p l e R s m args below meth c Qf nL (pc) lv (.int x :: .int i :: .ref (eA E b) :: stk) σ := by
  obtain ⟨hx, hb, hr, hml, hown, hts, hlocks, hG, hA⟩ := C
  intro H locs ls hP hS hl
  refine va_zast hx hb hG.1 hP (Wd_D hA) hS b 2 (Wd_get hsh) rfl hin hdg (fun H1 locs1 hP1 _ hS1 => ?_)
  refine k H1 locs1 ls ?_ hS1 hl
  rw [Wd_set hsh (st1 σ b i.toNatClampNeg (vp_nar .boolean x)) (by rw [st1_same]; rfl) (fun a h => st1_off h) (fun _ _ => rfl)] at hP1
  exact hP1
theorem j_alen (C : Cx E p s m args meth c own ws cc nL ret) {n : Nat} {v : Int32} (b t0 : Nat) {ty : FieldType} (hsh : (shp E)[b]? = some (sA (eC E t0) n)) (ht : (tysG E)[t0]? = some (eC E t0, ty)) (hv : Int32.ofNat n = v) (hdg : decode cc pc = .ok (.arraylength, 1)) (k : J E p l e R s m args below meth c Qf nL (pc + 1) lv (.int v :: stk) σ) : J E p l e R s m args below meth c Qf nL (pc) lv (.ref (eA E b) :: stk) σ := by
  obtain ⟨hx, hb, hr, hml, hown, hts, hlocks, hG, hA⟩ := C
  intro H locs ls hP hS hl
  exact va_alen hx hb hG.1 hP b t0 (Wd_get hsh) ht hv hdg (k H locs ls hP hS hl)
theorem j_aald (C : Cx E p s m args meth c own ws cc nL ret) {n a0 st : Nat} {i : Int32} (b t0 : Nat) {ty : FieldType} (hsh : (shp E)[b]? = some (sR E (eC E t0) n a0 st)) (ht : (tysG E)[t0]? = some (eC E t0, ty)) (hty : ty.isReference = true) (hdg : decode cc pc = .ok (.aaload, 1)) (hin : vp_in i n) (k : J E p l e R s m args below meth c Qf nL (pc + 1) lv (.ref (eA E (a0 + st * i.toNatClampNeg)) :: stk) σ) : J E p l e R s m args below meth c Qf nL (pc) lv (.int i :: .ref (eA E b) :: stk) σ := by
  obtain ⟨hx, hb, hr, hml, hown, hts, hlocks, hG, hA⟩ := C
  intro H locs ls hP hS hl
  have hlt : i.toNatClampNeg < n := Nat.not_le.mp fun q => hin (Or.inr q)
  have e := hP b _ (Wd_get hsh)
  have k1 := k H locs ls hP hS hl
  refine W.aald (v := .ref (eA E (a0 + st * i.toNatClampNeg))) (ty := ty) hx hb e ((hG.1.2 t0 _ ht).1 n (fun j => va_rf (if j < n then some (eA E (a0 + st * j)) else none))) hty (fun q => by cases q) (by show ¬ (i < 0 ∨ (arrV _ _ _).slots.size ≤ _); rw [arrV_size]; exact hin) (by show (arrV _ _ _).slots[_]? = _; rw [arrV_read _ _ hlt]; simp [hlt, va_rf]) rfl rfl hdg k1
theorem j_copy (C : Cx E p s m args meth c own ws cc nL ret) {n0 n1 NN : Nat} {n : Int32} {idx : Nat} (b0 b1 : Nat) (hsh0 : (shp E)[b0]? = some (sA (eC E 1) n0)) (hsh1 : (shp E)[b1]? = some (sA (eC E 1) n1)) (hw1 : Cond.methodLink own idx arraycopyName ∈ ws) (hw2 : Cond.native arraycopyName ∈ ws) (hw3 : Cond.static arraycopyName ∈ ws) (hw4 : Cond.initialized "java/lang/System" ∈ ws) (hn : ¬ n < 0) (hNN : n.toNatClampNeg = NN) (h4 : NN ≤ n0) (h5 : NN ≤ n1) (hfr : 1 ≤ R.frames) (hlo : (stk.map fun v => v.category).sum + (nativeFrameWords "java/lang/System" "arraycopy" 5 + 11) ≤ R.locals) (hdg : decode cc pc = .ok (.invokestatic idx, 3)) (k : J E p l e R s m args below meth c Qf nL (pc + 3) lv (stk) (stC σ b1 (va_cpy (σ.1 b0) (σ.1 b1) 0 0 NN))) : J E p l e R s m args below meth c Qf nL (pc) lv (.int n :: .int 0 :: .ref (eA E b1) :: .int 0 :: .ref (eA E b0) :: stk) σ := by
  obtain ⟨hx, hb, hr, hml, hown, hts, hlocks, hG, hA⟩ := C
  subst hNN
  intro H locs ls hP hS hl
  refine va_copyi (sp := 0) (dp := 0) hx hb (by rw [hml, hl.1]) hown (hts _ hw1) (hts _ hw2) (hts _ hw3) (hts _ hw4) hG.1 hP (Wd_D hA) hS b0 b1 1 1 (Wd_get hsh0) (Wd_get hsh1) rfl rfl rfl (by decide) (by decide) hn (by simpa using h4) (by simpa using h5) (fun _ _ => rfl) hfr hlo hdg (fun H1 locs1 hP1 _ hS1 => ?_)
  refine k H1 locs1 ls ?_ hS1 hl
  have e0 : (0 : Int32).toNatClampNeg = 0 := rfl
  rw [e0] at hP1
  rw [Wd_set hsh1 (stC σ b1 (va_cpy (σ.1 b0) (σ.1 b1) 0 0 n.toNatClampNeg)) (by rw [stC_same]; rfl) (fun a h => stC_off h) (fun _ _ => rfl)] at hP1
  exact hP1
theorem j_mmax (C : Cx E p s m args meth c own ws cc nL ret) {idx : Nat} {x y : Int32} (hw1 : Cond.methodLink own idx Lib.Math.max.name ∈ ws) (hw2 : Cond.static Lib.Math.max.name ∈ ws) (hw3 : Cond.initialized "java/lang/Math" ∈ ws) (hw4 : Cond.code Lib.Math.max.name Lib.Math.max.code 2 (some .int) ∈ ws) (hfr : 1 ≤ R.frames) (hlo : (stk.map fun v => v.category).sum + 13 ≤ R.locals) (hdg : decode cc pc = .ok (.invokestatic idx, 3)) (k : J E p l e R s m args below meth c Qf nL (pc + 3) lv (.int (if x < y then y else x) :: stk) σ) : J E p l e R s m args below meth c Qf nL (pc) lv (.int y :: .int x :: stk) σ := by
  obtain ⟨hx, hb, hr, hml, hown, hts, hlocks, hG, hA⟩ := C
  intro H locs ls hP hS hl
  exact va_mmax hx hb (by rw [hml, hl.1]) hown (hts _ hw1) (hts _ hw2) (hts _ hw3) (hts _ hw4) hfr hlo (Nat.zero_le _) (Nat.zero_le _) hdg (k H locs ls hP hS hl)
theorem j_mmin (C : Cx E p s m args meth c own ws cc nL ret) {idx : Nat} {x y : Int32} (hw1 : Cond.methodLink own idx Lib.Math.min.name ∈ ws) (hw2 : Cond.static Lib.Math.min.name ∈ ws) (hw3 : Cond.initialized "java/lang/Math" ∈ ws) (hw4 : Cond.code Lib.Math.min.name Lib.Math.min.code 2 (some .int) ∈ ws) (hfr : 1 ≤ R.frames) (hlo : (stk.map fun v => v.category).sum + 13 ≤ R.locals) (hdg : decode cc pc = .ok (.invokestatic idx, 3)) (k : J E p l e R s m args below meth c Qf nL (pc + 3) lv (.int (if y < x then y else x) :: stk) σ) : J E p l e R s m args below meth c Qf nL (pc) lv (.int y :: .int x :: stk) σ := by
  obtain ⟨hx, hb, hr, hml, hown, hts, hlocks, hG, hA⟩ := C
  intro H locs ls hP hS hl
  exact va_mmin hx hb (by rw [hml, hl.1]) hown (hts _ hw1) (hts _ hw2) (hts _ hw3) (hts _ hw4) hfr hlo (Nat.zero_le _) (Nat.zero_le _) hdg (k H locs ls hP hS hl)
/-- the two tables -/
theorem j_tget (C : Cx E p s m args meth c own ws cc nL ret) {idx : Nat} (t : Nat) (ht : t = 0 ∨ t = 1) (hlink : Cond.fieldLink own idx "LeapKings" (if t = 0 then "LEAST" else "GREATEST") "[I" ∈ ws) (hdg : decode cc pc = .ok (.getstatic idx, 3)) (k : J E p l e R s m args below meth c Qf nL (pc + 3) lv (.ref (eX E t) :: stk) σ) : J E p l e R s m args below meth c Qf nL (pc) lv (stk) σ := by
  obtain ⟨hx, hb, hr, hml, hown, hts, hlocks, hG, hA⟩ := C
  intro H locs ls hP hS hl
  rcases ht with rfl | rfl
  · exact va_gets hx hb hG.2.2.1.1 hS hown (hts _ hlink) (fun _ h => h) hdg (k H locs ls hP hS hl)
  · exact va_gets hx hb hG.2.2.2.1.1 hS hown (hts _ hlink) (fun _ h => h) hdg (k H locs ls hP hS hl)
theorem j_tgetN (C : Cx E p s m args meth c RX4 ws cc nL ret) {idx : Nat} (t : Nat) (ht : (t = 0 ∧ idx = 149) ∨ (t = 1 ∧ idx = 152)) (hdg : decode cc pc = .ok (.getstatic idx, 3)) (k : J E p l e R s m args below meth c Qf nL (pc + 3) lv (.ref (eX E t) :: stk) σ) : J E p l e R s m args below meth c Qf nL (pc) lv (stk) σ := by
  obtain ⟨hx, hb, hr, hml, hown, hts, hlocks, hG, hA⟩ := C
  intro H locs ls hP hS hl
  rcases ht with ⟨rfl, rfl⟩ | ⟨rfl, rfl⟩
  · exact va_getsN hx hb hG.2.2.1.1 hS hown (va_Nw.use rfl hG.2.1.2.2.2.2.1) (fun _ h => h) hdg (k H locs ls hP hS hl)
  · exact va_getsN hx hb hG.2.2.2.1.1 hS hown (va_Nw.use rfl hG.2.1.2.2.2.2.2) (fun _ h => h) hdg (k H locs ls hP hS hl)
theorem j_tald (C : Cx E p s m args meth c own ws cc nL ret) {i : Int32} (t : Nat) (ht : t = 0 ∨ t = 1) (hdg : decode cc pc = .ok (.iaload, 1)) (hin : vp_in i 4) (k : J E p l e R s m args below meth c Qf nL (pc + 1) lv (.int ((if t = 0 then tLeast else tGreat).getD i.toNatClampNeg 0) :: stk) σ) : J E p l e R s m args below meth c Qf nL (pc) lv (.int i :: .ref (eX E t) :: stk) σ := by
  obtain ⟨hx, hb, hr, hml, hown, hts, hlocks, hG, hA⟩ := C
  intro H locs ls hP hS hl
  rcases ht with rfl | rfl
  · exact va_ti hx hb hG.2.2.1.2 hS hin rfl hdg (k H locs ls hP hS hl)
  · exact va_ti hx hb hG.2.2.2.1.2 hS hin rfl hdg (k H locs ls hP hS hl)
theorem j_callVI (C : Cx E p s m args meth c own ws cc nL ret) {y : MethodName} {wy : List Cond} {ry : Room} {cy : ByteArray} {idx n maxL ci N : Nat} {rt : Option FieldType} {Cn : String} {T : u_T} {sp : List (Nat × Nat)} {As : List Value} {Q : Int32 → Mem → Prop} (b : Nat) (hM : CtI l y wy ry E (.ref (eA E b) :: As) σ Q) (cw : CallW R s args own Cn idx y cy maxL rt wy ry 0 0 n) (hsh : (shp E)[b]? = some (sO E ci sp)) (hc : vwCl[ci]? = some (Cn, T, N)) (hn : As.length = n) (hst : stk = As.reverse ++ .ref (eA E b) :: rest) (hro : (rest.map fun v => v.category).sum ≤ 8) (hdg : decode cc pc = .ok (.invokevirtual idx, 3)) (k : ∀ (r : Int32) (τ : Mem), Q r τ → J E p l e R s m args below meth c Qf nL (pc + 3) lv (.int r :: rest) τ) : J E p l e R s m args below meth c Qf nL (pc) lv (stk) σ := by
  obtain ⟨hx, hb, hr, hml, hown, hts, hlocks, hG, hA⟩ := C
  intro H locs ls hP hS hl
  have hsz := hS.1
  refine va_calli (va_runV (As := As) (rest := rest) (b := eA E b) (ws := wy) ⟨hx, hb, hml, hown, hts⟩ (hM H.size) cw ⟨Pre.blind, va_recv hG.1 hP hc (Wd_get hsh), fun U hU hW => ⟨rfl, by rw [hU], by rw [hU]; exact hP, by rw [hU]; exact hG.step rfl hS hW, hA⟩⟩ rfl hn hl.1 hst (lv_room hro) hdg ⟨Nat.zero_le _, Nat.zero_le _⟩) hS (fun q _ h => GA_mono hsz q h) (fun q h => GA_mono hsz q h) (fun r τ t H1 locs1 ht hvm hw hB hz1 hk1 hS1 => k r τ hw H1 locs1 ls (by unfold Bw at hB; rw [ht] at hB; exact hB) hS1 hl)
theorem j_callSI (C : Cx E p s m args meth c own ws cc nL ret) {y : MethodName} {wy : List Cond} {ry : Room} {cy : ByteArray} {idx n maxL : Nat} {rt : Option FieldType} {As : List Value} {Q : Int32 → Mem → Prop} (hM : CtI l y wy ry E As σ Q) (cw : CallB R s args own idx y cy maxL rt wy ry 0 0 n ∧ (Cond.static y).before args s = true) (hn : As.length = n) (hst : stk = As.reverse ++ rest) (hro : (rest.map fun v => v.category).sum ≤ 8) (hdg : decode cc pc = .ok (.invokestatic idx, 3)) (k : ∀ (r : Int32) (τ : Mem), Q r τ → J E p l e R s m args below meth c Qf nL (pc + 3) lv (.int r :: rest) τ) : J E p l e R s m args below meth c Qf nL (pc) lv (stk) σ := by
  obtain ⟨hx, hb, hr, hml, hown, hts, hlocks, hG, hA⟩ := C
  intro H locs ls hP hS hl
  have hsz := hS.1
  refine va_calli (va_runS (As := As) (rest := rest) (ws := wy) ⟨hx, hb, hml, hown, hts⟩ (hM H.size) cw ⟨Pre.blind, fun U hU hW => ⟨rfl, by rw [hU], by rw [hU]; exact hP, by rw [hU]; exact hG.step rfl hS hW, hA⟩⟩ rfl hn hl.1 hst (lv_room hro) hdg ⟨Nat.zero_le _, Nat.zero_le _⟩) hS (fun q _ h => GA_mono hsz q h) (fun q h => GA_mono hsz q h) (fun r τ t H1 locs1 ht hvm hw hB hz1 hk1 hS1 => k r τ hw H1 locs1 ls (by unfold Bw at hB; rw [ht] at hB; exact hB) hS1 hl)
theorem j_callVL (C : Cx E p s m args meth c own ws cc nL ret) {y : MethodName} {wy : List Cond} {ry : Room} {cy : ByteArray} {idx n maxL ci N : Nat} {rt : Option FieldType} {Cn : String} {T : u_T} {sp : List (Nat × Nat)} {As : List Value} {Q : Int64 → Mem → Prop} (b : Nat) (hM : CtL l y wy ry E (.ref (eA E b) :: As) σ Q) (cw : CallW R s args own Cn idx y cy maxL rt wy ry 0 0 n) (hsh : (shp E)[b]? = some (sO E ci sp)) (hc : vwCl[ci]? = some (Cn, T, N)) (hn : As.length = n) (hst : stk = As.reverse ++ .ref (eA E b) :: rest) (hro : (rest.map fun v => v.category).sum ≤ 8) (hdg : decode cc pc = .ok (.invokevirtual idx, 3)) (k : ∀ (r : Int64) (τ : Mem), Q r τ → J E p l e R s m args below meth c Qf nL (pc + 3) lv (.long r :: rest) τ) : J E p l e R s m args below meth c Qf nL (pc) lv (stk) σ := by
  obtain ⟨hx, hb, hr, hml, hown, hts, hlocks, hG, hA⟩ := C
  intro H locs ls hP hS hl
  have hsz := hS.1
  refine va_calll (va_runV (As := As) (rest := rest) (b := eA E b) (ws := wy) ⟨hx, hb, hml, hown, hts⟩ (hM H.size) cw ⟨Pre.blind, va_recv hG.1 hP hc (Wd_get hsh), fun U hU hW => ⟨rfl, by rw [hU], by rw [hU]; exact hP, by rw [hU]; exact hG.step rfl hS hW, hA⟩⟩ rfl hn hl.1 hst (lv_room hro) hdg ⟨Nat.zero_le _, Nat.zero_le _⟩) hS (fun q _ h => GA_mono hsz q h) (fun q h => GA_mono hsz q h) (fun r τ t H1 locs1 ht hvm hw hB hz1 hk1 hS1 => k r τ hw H1 locs1 ls (by unfold Bw at hB; rw [ht] at hB; exact hB) hS1 hl)
theorem j_callSL (C : Cx E p s m args meth c own ws cc nL ret) {y : MethodName} {wy : List Cond} {ry : Room} {cy : ByteArray} {idx n maxL : Nat} {rt : Option FieldType} {As : List Value} {Q : Int64 → Mem → Prop} (hM : CtL l y wy ry E As σ Q) (cw : CallB R s args own idx y cy maxL rt wy ry 0 0 n ∧ (Cond.static y).before args s = true) (hn : As.length = n) (hst : stk = As.reverse ++ rest) (hro : (rest.map fun v => v.category).sum ≤ 8) (hdg : decode cc pc = .ok (.invokestatic idx, 3)) (k : ∀ (r : Int64) (τ : Mem), Q r τ → J E p l e R s m args below meth c Qf nL (pc + 3) lv (.long r :: rest) τ) : J E p l e R s m args below meth c Qf nL (pc) lv (stk) σ := by
  obtain ⟨hx, hb, hr, hml, hown, hts, hlocks, hG, hA⟩ := C
  intro H locs ls hP hS hl
  have hsz := hS.1
  refine va_calll (va_runS (As := As) (rest := rest) (ws := wy) ⟨hx, hb, hml, hown, hts⟩ (hM H.size) cw ⟨Pre.blind, fun U hU hW => ⟨rfl, by rw [hU], by rw [hU]; exact hP, by rw [hU]; exact hG.step rfl hS hW, hA⟩⟩ rfl hn hl.1 hst (lv_room hro) hdg ⟨Nat.zero_le _, Nat.zero_le _⟩) hS (fun q _ h => GA_mono hsz q h) (fun q h => GA_mono hsz q h) (fun r τ t H1 locs1 ht hvm hw hB hz1 hk1 hS1 => k r τ hw H1 locs1 ls (by unfold Bw at hB; rw [ht] at hB; exact hB) hS1 hl)
theorem j_callVV (C : Cx E p s m args meth c own ws cc nL ret) {y : MethodName} {wy : List Cond} {ry : Room} {cy : ByteArray} {idx n maxL ci N : Nat} {rt : Option FieldType} {Cn : String} {T : u_T} {sp : List (Nat × Nat)} {As : List Value} {Q : Mem → Prop} (b : Nat) (hM : CtV l y wy ry E (.ref (eA E b) :: As) σ Q) (cw : CallW R s args own Cn idx y cy maxL rt wy ry 0 0 n) (hsh : (shp E)[b]? = some (sO E ci sp)) (hc : vwCl[ci]? = some (Cn, T, N)) (hn : As.length = n) (hst : stk = As.reverse ++ .ref (eA E b) :: rest) (hro : (rest.map fun v => v.category).sum ≤ 8) (hdg : decode cc pc = .ok (.invokevirtual idx, 3)) (k : ∀ (τ : Mem), Q τ → J E p l e R s m args below meth c Qf nL (pc + 3) lv (rest) τ) : J E p l e R s m args below meth c Qf nL (pc) lv (stk) σ := by
  obtain ⟨hx, hb, hr, hml, hown, hts, hlocks, hG, hA⟩ := C
  intro H locs ls hP hS hl
  have hsz := hS.1
  refine va_callv (va_runV (As := As) (rest := rest) (b := eA E b) (ws := wy) ⟨hx, hb, hml, hown, hts⟩ (hM H.size) cw ⟨Pre.blind, va_recv hG.1 hP hc (Wd_get hsh), fun U hU hW => ⟨rfl, by rw [hU], by rw [hU]; exact hP, by rw [hU]; exact hG.step rfl hS hW, hA⟩⟩ rfl hn hl.1 hst (lv_room hro) hdg ⟨Nat.zero_le _, Nat.zero_le _⟩) hS (fun q _ h => GA_mono hsz q h) (fun q h => GA_mono hsz q h) (fun τ t H1 locs1 ht hvm hw hB hz1 hk1 hS1 => k τ hw H1 locs1 ls (by unfold Bw at hB; rw [ht] at hB; exact hB) hS1 hl)
theorem j_callSV (C : Cx E p s m args meth c own ws cc nL ret) {y : MethodName} {wy : List Cond} {ry : Room} {cy : ByteArray} {idx n maxL : Nat} {rt : Option FieldType} {As : List Value} {Q : Mem → Prop} (hM : CtV l y wy ry E As σ Q) (cw : CallB R s args own idx y cy maxL rt wy ry 0 0 n ∧ (Cond.static y).before args s = true) (hn : As.length = n) (hst : stk = As.reverse ++ rest) (hro : (rest.map fun v => v.category).sum ≤ 8) (hdg : decode cc pc = .ok (.invokestatic idx, 3)) (k : ∀ (τ : Mem), Q τ → J E p l e R s m args below meth c Qf nL (pc + 3) lv (rest) τ) : J E p l e R s m args below meth c Qf nL (pc) lv (stk) σ := by
  obtain ⟨hx, hb, hr, hml, hown, hts, hlocks, hG, hA⟩ := C
  intro H locs ls hP hS hl
  have hsz := hS.1
  refine va_callv (va_runS (As := As) (rest := rest) (ws := wy) ⟨hx, hb, hml, hown, hts⟩ (hM H.size) cw ⟨Pre.blind, fun U hU hW => ⟨rfl, by rw [hU], by rw [hU]; exact hP, by rw [hU]; exact hG.step rfl hS hW, hA⟩⟩ rfl hn hl.1 hst (lv_room hro) hdg ⟨Nat.zero_le _, Nat.zero_le _⟩) hS (fun q _ h => GA_mono hsz q h) (fun q h => GA_mono hsz q h) (fun τ t H1 locs1 ht hvm hw hB hz1 hk1 hS1 => k τ hw H1 locs1 ls (by unfold Bw at hB; rw [ht] at hB; exact hB) hS1 hl)
theorem j_callNI (C : Cx E p s m args meth c own ws cc nL ret) {y : MethodName} {wy : List Cond} {ry : Room} {cy : ByteArray} {idx n maxL : Nat} {host : String} {rt : Option FieldType} {As : List Value} {Q : Int32 → Mem → Prop} (hM : CtI l y wy ry E As σ Q) (cw : va_CN R s args own idx y host cy maxL rt wy ry 0 0 n ∧ (Cond.static y).before args s = true ∧ True) (hn : As.length = n) (hst : stk = As.reverse ++ rest) (hro : (rest.map fun v => v.category).sum ≤ 8) (hdg : decode cc pc = .ok (.invokestatic idx, 3)) (k : ∀ (r : Int32) (τ : Mem), Q r τ → J E p l e R s m args below meth c Qf nL (pc + 3) lv (.int r :: rest) τ) : J E p l e R s m args below meth c Qf nL (pc) lv (stk) σ := by
  obtain ⟨hx, hb, hr, hml, hown, hts, hlocks, hG, hA⟩ := C
  intro H locs ls hP hS hl
  have hsz := hS.1
  refine va_calli (va_runSN (As := As) (rest := rest) (ws := wy) ⟨hx, hb, hml, hown, hts⟩ (hM H.size) cw ⟨Pre.blind, fun U hU hW => ⟨rfl, by rw [hU], by rw [hU]; exact hP, by rw [hU]; exact hG.step rfl hS hW, hA⟩⟩ rfl hn hl.1 hst (lv_room hro) hdg ⟨Nat.zero_le _, Nat.zero_le _⟩) hS (fun q _ h => GA_mono hsz q h) (fun q h => GA_mono hsz q h) (fun r τ t H1 locs1 ht hvm hw hB hz1 hk1 hS1 => k r τ hw H1 locs1 ls (by unfold Bw at hB; rw [ht] at hB; exact hB) hS1 hl)
end JJ
