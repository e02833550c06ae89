/-! which places are which -/
def isDyn (d : Nat) : Bool := d == 5 || d == 12 || d == 19 || d == 31 || d == 42
def isSig (d : Nat) : Bool := d == 26 || d == 38 || d == 49
def isShe (d : Nat) : Bool := d == 53 || d == 55 || d == 57 || d == 59
theorem isDyn_or {d : Nat} (h : isDyn d = true) : d = 5 ∨ d = 12 ∨ d = 19 ∨ d = 31 ∨ d = 42 := by
  simp [isDyn] at h
  omega
theorem isSig_or {d : Nat} (h : isSig d = true) : d = 26 ∨ d = 38 ∨ d = 49 := by
  simp [isSig] at h
  omega
theorem isShe_or {d : Nat} (h : isShe d = true) : d = 53 ∨ d = 55 ∨ d = 57 ∨ d = 59 := by
  simp [isShe] at h
  omega
theorem in_lt {i : Int32} {n : Nat} (h : vp_in i n) : i.toNatClampNeg < n := Nat.not_le.mp fun q => h (Or.inr q)
theorem shp_dyn {E : EE} {d : Nat} (h : isDyn d = true) : (shp E)[d]? = some (sO E 0 (spD d)) := by
  rcases isDyn_or h with rfl | rfl | rfl | rfl | rfl <;> rfl
theorem shp_dynT {E : EE} {d : Nat} (h : isDyn d = true) : (shp E)[d + 1]? = some (sR E (eC E 5) 4 (d + 2) 1) := by
  rcases isDyn_or h with rfl | rfl | rfl | rfl | rfl <;> rfl
theorem shp_dynL {E : EE} {d : Nat} (h : isDyn d = true) : (shp E)[d + 6]? = some (sA (eC E 1) 6) := by
  rcases isDyn_or h with rfl | rfl | rfl | rfl | rfl <;> rfl
theorem shp_dynR {E : EE} {d : Nat} {i : Int32} (h : isDyn d = true) (hi : vp_in i 4) : (shp E)[d + 2 + 1 * i.toNatClampNeg]? = some (sA (eC E 1) 6) := by
  have h1 := in_lt hi
  generalize i.toNatClampNeg = j at h1
  rcases (show j = 0 ∨ j = 1 ∨ j = 2 ∨ j = 3 by omega) with rfl | rfl | rfl | rfl <;> rcases isDyn_or h with rfl | rfl | rfl | rfl | rfl <;> rfl
theorem shp_sig {E : EE} {d : Nat} (h : isSig d = true) : (shp E)[d]? = some (sO E 3 (spSi d)) := by
  rcases isSig_or h with rfl | rfl | rfl <;> rfl
theorem shp_sig1 {E : EE} {d : Nat} (h : isSig d = true) : (shp E)[d + 1]? = some (sA (eC E 1) 6) := by
  rcases isSig_or h with rfl | rfl | rfl <;> rfl
theorem shp_sig2 {E : EE} {d : Nat} (h : isSig d = true) : (shp E)[d + 2]? = some (sA (eC E 1) 6) := by
  rcases isSig_or h with rfl | rfl | rfl <;> rfl
theorem shp_she {E : EE} {d : Nat} (h : isShe d = true) : (shp E)[d]? = some (sO E 2 (spSh d)) := by
  rcases isShe_or h with rfl | rfl | rfl | rfl <;> rfl
theorem shp_sheC {E : EE} {d : Nat} (h : isShe d = true) : (shp E)[d + 1]? = some (sA (eC E 1) 40) := by
  rcases isShe_or h with rfl | rfl | rfl | rfl <;> rfl
theorem she_at {i : Int32} (hi : vp_in i 4) : isShe (53 + 2 * i.toNatClampNeg) = true := by
  have h1 := in_lt hi
  generalize i.toNatClampNeg = j at h1
  rcases (show j = 0 ∨ j = 1 ∨ j = 2 ∨ j = 3 by omega) with rfl | rfl | rfl | rfl <;> rfl
theorem shp_img {E : EE} {i : Int32} (hi : vp_in i 2) : (shp E)[30 + 11 * i.toNatClampNeg]? = some (sO E 1 (spI (30 + 11 * i.toNatClampNeg))) := by
  have h1 := in_lt hi
  generalize i.toNatClampNeg = j at h1
  rcases (show j = 0 ∨ j = 1 by omega) with rfl | rfl <;> rfl
theorem img_dyn {i : Int32} (hi : vp_in i 2) : isDyn (30 + 11 * i.toNatClampNeg + 1) = true := by
  have h1 := in_lt hi
  generalize i.toNatClampNeg = j at h1
  rcases (show j = 0 ∨ j = 1 by omega) with rfl | rfl <;> rfl
theorem img_sig {i : Int32} (hi : vp_in i 2) : isSig (30 + 11 * i.toNatClampNeg + 8) = true := by
  have h1 := in_lt hi
  generalize i.toNatClampNeg = j at h1
  rcases (show j = 0 ∨ j = 1 by omega) with rfl | rfl <;> rfl
theorem b_nar {v : Int32} (h : v = 0 ∨ v = 1) : narrow .boolean (.int v) = .int v := by rcases h with rfl | rfl <;> rfl
theorem b_fit {v : Int32} (h : v = 0 ∨ v = 1) : fits .boolean (.int v) = true := by rcases h with rfl | rfl <;> rfl
theorem tab_out {x : Int32} {lo hi : Int} (h : ∀ v : Int, lo ≤ v → v ≤ hi → ¬ x = Int32.ofInt v) : x.toInt < lo ∨ hi < x.toInt := by
  rcases Int.lt_or_le x.toInt lo with h1 | h1
  · exact Or.inl h1
  · rcases Int.lt_or_le hi x.toInt with h2 | h2
    · exact Or.inr h2
    · exact absurd (Int32.ofInt_toInt x).symm (h x.toInt h1 h2)
theorem in_lit {i : Int32} {n : Nat} (h : (!(decide (i < 0)) && decide (i.toNatClampNeg < n)) = true) : vp_in i n := by
  simp only [Bool.and_eq_true, Bool.not_eq_true', decide_eq_true_eq, decide_eq_false_iff_not] at h
  intro q
  rcases q with q | q
  · exact h.1 q
  · omega
theorem lk_out2 {x : Int32} {a b df : Int} (h0 : ¬ x = 0) (h1 : ¬ x = 1) : Op.lookupswitch.offset [(0, a), (1, b)] df x.toInt = df := by
  have e0 : ¬ (0 : Int) = x.toInt := fun q => h0 (Int32.toInt_inj.mp (by rw [← q]; rfl))
  have e1 : ¬ (1 : Int) = x.toInt := fun q => h1 (Int32.toInt_inj.mp (by rw [← q]; rfl))
  rw [Op.lookupswitch.offset_cons, if_neg e0, Op.lookupswitch.offset_cons, if_neg e1, Op.lookupswitch.offset_nil]
