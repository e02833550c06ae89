/-! PURE LEVEL: memory, numbers, the abstract dynasty -/
theorem st1_get (σ : Mem) (k j : Nat) (v : Int32) (a b : Nat) : (st1 σ k j v).1 a b = if a = k ∧ b = j then v else σ.1 a b := by
  unfold st1 stC
  by_cases h : a = k
  · subst h
    by_cases h2 : b = j
    · subst h2
      simp [upd]
    · simp [upd, h2]
  · simp [h]
theorem stC_get (σ : Mem) (k : Nat) (f : Nat → Int32) (a b : Nat) : (stC σ k f).1 a b = if a = k then f b else σ.1 a b := by
  unfold stC
  by_cases h : a = k
  · simp [h]
  · simp [h]
theorem st2_get (σ : Mem) (k j : Nat) (v : Int64) (a b : Nat) : (st2 σ k j v).2 a b = if a = k ∧ b = j then v else σ.2 a b := by
  unfold st2
  by_cases h : a = k
  · subst h
    by_cases h2 : b = j
    · subst h2
      simp [vp_updL]
    · simp [vp_updL, h2]
  · simp [h]
theorem mm1 {σ : Mem} {k j a b : Nat} {v : Int32} (h : a ≠ k) : (st1 σ k j v).1 a b = σ.1 a b := by rw [st1_get, if_neg (fun q => h q.1)]
theorem mm2 {σ : Mem} {k j a b : Nat} {v : Int32} (h : b ≠ j) : (st1 σ k j v).1 a b = σ.1 a b := by rw [st1_get, if_neg (fun q => h q.2)]
theorem mm3 {σ : Mem} {k j : Nat} {v : Int32} : (st1 σ k j v).1 k j = v := by rw [st1_get, if_pos ⟨rfl, rfl⟩]
theorem mc1 {σ : Mem} {k a b : Nat} {f : Nat → Int32} (h : a ≠ k) : (stC σ k f).1 a b = σ.1 a b := by rw [stC_get, if_neg h]
theorem mc3 {σ : Mem} {k b : Nat} {f : Nat → Int32} : (stC σ k f).1 k b = f b := by rw [stC_get, if_pos rfl]
theorem ms2 {σ : Mem} {k j : Nat} {v : Int64} : (st2 σ k j v).1 = σ.1 := rfl
theorem ms1 {σ : Mem} {k j : Nat} {v : Int32} : (st1 σ k j v).2 = σ.2 := rfl
theorem msC {σ : Mem} {k : Nat} {f : Nat → Int32} : (stC σ k f).2 = σ.2 := rfl
theorem ml1 {σ : Mem} {k j a b : Nat} {v : Int64} (h : a ≠ k) : (st2 σ k j v).2 a b = σ.2 a b := by rw [st2_get, if_neg (fun q => h q.1)]
theorem ml2 {σ : Mem} {k j a b : Nat} {v : Int64} (h : b ≠ j) : (st2 σ k j v).2 a b = σ.2 a b := by rw [st2_get, if_neg (fun q => h q.2)]
theorem ml3 {σ : Mem} {k j : Nat} {v : Int64} : (st2 σ k j v).2 k j = v := by rw [st2_get, if_pos ⟨rfl, rfl⟩]
theorem cpy6 {f g : Nat → Int32} {b : Nat} (h : b < 6) : va_cpy f g 0 0 6 b = f b := by rw [pk_cpy_in (by omega) (by omega)]; simp
/-- outside lo .. hi nothing changed -/
def Keep (lo hi : Nat) (σ τ : Mem) : Prop := (∀ a b, (a < lo ∨ hi ≤ a) → τ.1 a b = σ.1 a b) ∧ (∀ a b, (a < lo ∨ hi ≤ a) → τ.2 a b = σ.2 a b)
theorem Keep.rfl {lo hi : Nat} {σ : Mem} : Keep lo hi σ σ := ⟨fun _ _ _ => Eq.refl _, fun _ _ _ => Eq.refl _⟩
theorem Keep.trans {lo hi : Nat} {σ τ υ : Mem} (h1 : Keep lo hi σ τ) (h2 : Keep lo hi τ υ) : Keep lo hi σ υ := ⟨fun a b h => (h2.1 a b h).trans (h1.1 a b h), fun a b h => (h2.2 a b h).trans (h1.2 a b h)⟩
theorem Keep.wide {lo hi lo' hi' : Nat} {σ τ : Mem} (h : Keep lo hi σ τ) (h1 : lo' ≤ lo) (h2 : hi ≤ hi') : Keep lo' hi' σ τ := ⟨fun a b q => h.1 a b (by omega), fun a b q => h.2 a b (by omega)⟩
theorem Keep.st1 {lo hi : Nat} {σ τ : Mem} {k j : Nat} {v : Int32} (h : Keep lo hi σ τ) (h1 : lo ≤ k) (h2 : k < hi) : Keep lo hi σ (st1 τ k j v) := by
  refine ⟨fun a b q => ?_, fun a b q => h.2 a b q⟩
  rw [st1_get, if_neg (by omega)]
  exact h.1 a b q
theorem Keep.stC {lo hi : Nat} {σ τ : Mem} {k : Nat} {f : Nat → Int32} (h : Keep lo hi σ τ) (h1 : lo ≤ k) (h2 : k < hi) : Keep lo hi σ (stC τ k f) := by
  refine ⟨fun a b q => ?_, fun a b q => h.2 a b q⟩
  rw [stC_get, if_neg (by omega)]
  exact h.1 a b q
theorem Keep.st2 {lo hi : Nat} {σ τ : Mem} {k j : Nat} {v : Int64} (h : Keep lo hi σ τ) (h1 : lo ≤ k) (h2 : k < hi) : Keep lo hi σ (st2 τ k j v) := by
  refine ⟨fun a b q => h.1 a b q, fun a b q => ?_⟩
  rw [st2_get, if_neg (by omega)]
  exact h.2 a b q
/-- within bounds: the number is one of lo .. hi -/
theorem wi_iff {a b c : Int32} {σ : Mem} {Q : Int32 → Mem → Prop} : wp_X5_within a b c σ Q ↔ Q (if b ≤ a ∧ a ≤ c then 1 else 0) σ := by
  unfold wp_X5_within
  by_cases h1 : a < b
  · have : ¬ (b ≤ a ∧ a ≤ c) := fun q => absurd q.1 (Int32.not_le.mpr h1)
    simp [h1, this]
  · by_cases h2 : c < a
    · have : ¬ (b ≤ a ∧ a ≤ c) := fun q => absurd q.2 (Int32.not_le.mpr h2)
      simp [h1, h2, this]
    · have : b ≤ a ∧ a ≤ c := ⟨Int32.not_lt.mp h1, Int32.not_lt.mp h2⟩
      simp [h1, h2, this]
/-- an int that is nI of a small number, or none -/
theorem in_split (a : Int32) (n : Nat) (hn : n < 2 ^ 31) : (∃ j, j < n ∧ a = nI j) ∨ (¬ (0 ≤ a ∧ a ≤ nI n - 1)) := by
  by_cases h : a < 0
  · exact Or.inr (fun q => absurd q.1 (Int32.not_le.mpr h))
  · obtain ⟨j, hj, rfl⟩ := nI_of h
    by_cases hjn : j < n
    · exact Or.inl ⟨j, hjn, rfl⟩
    · refine Or.inr (fun q => ?_)
      have h2 := q.2
      rcases Nat.eq_zero_or_pos n with h0 | h0
      · subst h0
        rw [Int32.le_iff_toInt_le, nI_toInt hj] at h2
        have : (nI 0 - 1).toInt = -1 := rfl
        omega
      · obtain ⟨k, rfl⟩ : ∃ k, n = k + 1 := ⟨n - 1, by omega⟩
        rw [nI_pred, nI_leI hj (by omega)] at h2
        omega
theorem in_yes {j n : Nat} (hn : n < 2 ^ 31) (h : j < n) : (0 : Int32) ≤ nI j ∧ nI j ≤ nI n - 1 := by
  obtain ⟨k, rfl⟩ : ∃ k, n = k + 1 := ⟨n - 1, by omega⟩
  rw [nI_pred]
  exact ⟨nI_pos' (by omega), nI_le (by omega) (by omega)⟩
/-- the dynasty's cells, in the reference's order -/
def gX (σ : Mem) (d k : Nat) : Int32 := if k < 24 then σ.1 (d + 2 + k % 4) (k / 4) else if k = 24 then σ.1 d 2 else if k < 31 then σ.1 (d + 6) (k - 25) else σ.1 d (k - 28)
/-- well formed -/
def WF (A : Nat → Nat) : Prop := A 24 ≤ 6 ∧ (∀ h, h < A 24 → A (4 * h) ≤ 3 ∧ A (4 * h + 1) ≤ 20 ∧ 1 ≤ A (4 * h + 2) ∧ A (4 * h + 2) ≤ 20 ∧ 1 ≤ A (4 * h + 3) ∧ A (4 * h + 3) ≤ 30) ∧ (∀ i, i < A 24 → A (25 + i) < A 24) ∧ (∀ i j, i < A 24 → j < A 24 → A (25 + i) = A (25 + j) → i = j) ∧ (∀ h, h < A 24 → ∃ i, i < A 24 ∧ A (25 + i) = h) ∧ A 31 ≤ 9 ∧ A 32 ≤ 999
/-- the cells g hold the dynasty A -/
def Rl (g : Nat → Int32) (A : Nat → Nat) : Prop := WF A ∧ g 24 = nI (A 24) ∧ (∀ h w, h < A 24 → w < 4 → g (4 * h + w) = nI (A (4 * h + w))) ∧ (∀ i, i < A 24 → g (25 + i) = nI (A (25 + i))) ∧ (∀ k, 31 ≤ k → k < 36 → g k = nI (A k))
theorem gX_t {σ : Mem} {d h w : Nat} (hh : h < 6) (hw : w < 4) : gX σ d (4 * h + w) = σ.1 (d + 2 + w) h := by
  unfold gX
  rw [if_pos (by omega), show (4 * h + w) % 4 = w by omega, show (4 * h + w) / 4 = h by omega]
theorem gX_n {σ : Mem} {d : Nat} : gX σ d 24 = σ.1 d 2 := rfl
theorem gX_l {σ : Mem} {d i : Nat} (hi : i < 6) : gX σ d (25 + i) = σ.1 (d + 6) i := by
  unfold gX
  rw [if_neg (by omega), if_neg (by omega), if_pos (by omega), show 25 + i - 25 = i by omega]
theorem gX_s {σ : Mem} {d k : Nat} (h1 : 31 ≤ k) : gX σ d k = σ.1 d (k - 28) := by
  unfold gX
  rw [if_neg (by omega), if_neg (by omega), if_neg (by omega)]
/-- the class's dynasty at place d holds A -/
def RX (σ : Mem) (d : Nat) (A : Nat → Nat) : Prop := WF A ∧ σ.1 d 2 = nI (A 24) ∧ (∀ h w, h < A 24 → w < 4 → σ.1 (d + 2 + w) h = nI (A (4 * h + w))) ∧ (∀ i, i < A 24 → σ.1 (d + 6) i = nI (A (25 + i))) ∧ (∀ k, 31 ≤ k → k < 36 → σ.1 d (k - 28) = nI (A k))
theorem RX.frame {σ τ : Mem} {d : Nat} {A : Nat → Nat} (h : RX σ d A) (hk : ∀ a b, d ≤ a → a < d + 7 → τ.1 a b = σ.1 a b) : RX τ d A := by
  obtain ⟨h0, h1, h2, h3, h4⟩ := h
  exact ⟨h0, by rw [hk _ _ (by omega) (by omega)]; exact h1, fun q w hq hw => by rw [hk _ _ (by omega) (by omega)]; exact h2 q w hq hw, fun i hi => by rw [hk _ _ (by omega) (by omega)]; exact h3 i hi, fun k a b => by rw [hk _ _ (by omega) (by omega)]; exact h4 k a b⟩
/-- the reference's dynasty in row b, from cell o on, holds A -/
def RM (σ : Mem) (b o : Nat) (A : Nat → Nat) : Prop := WF A ∧ σ.1 b (o + 24) = nI (A 24) ∧ (∀ h w, h < A 24 → w < 4 → σ.1 b (o + (4 * h + w)) = nI (A (4 * h + w))) ∧ (∀ i, i < A 24 → σ.1 b (o + (25 + i)) = nI (A (25 + i))) ∧ (∀ k, 31 ≤ k → k < 36 → σ.1 b (o + k) = nI (A k))
/-- HEIGHT -/
def hgt (A : Nat → Nat) (h : Nat) : Nat := if A (4 * h) = 1 then A (4 * h + 2) + (A (4 * h + 2) + 1) / 2 else if A (4 * h) = 2 then (A (4 * h + 2) + (A (4 * h + 2) + 1) / 2) / 2 else if A (4 * h) = 3 then (A (4 * h + 2) + (A (4 * h + 2) + 1) / 2) / 2 - 1 else A (4 * h + 2)
def odd32 (n : Nat) : Prop := nI n - nI n / 2 * 2 = 1
/-- one who is moved behind all others -/
def bhd (A : Nat → Nat) (p : Nat) : Nat → Nat := fun k => if 25 + p ≤ k ∧ k + 1 < 25 + A 24 then A (k + 1) else if k + 1 = 25 + A 24 then A (25 + p) else A k
def fellA (A : Nat → Nat) (s : Bool) : Bool := s || decide (A (4 * A 26 + 1) < A 31 + hgt A (A 25))
def spanA (A : Nat → Nat) (s : Bool) : Nat := if fellA A s = true then (A (4 * A 26 + 3) + 1) / 2 else A (4 * A 26 + 3)
/-- the counts of a reign -/
noncomputable def cntA (A : Nat → Nat) (s : Bool) : Nat → Nat := fun k =>
  if k = 33 then A 33 + 1 else if k = 34 then A 34 + spanA A s else if k = 35 then A 35 + (if fellA A s = true then 1 else 0) else
  if k = 32 then (@ite _ (odd32 (A 33 + 1)) (Classical.propDecidable _) (min 999 (A 32 + spanA A s)) (A 32 - spanA A s)) else A k
/-- A REIGN -/
noncomputable def crA (A : Nat → Nat) (s : Bool) : Nat → Nat :=
  if fellA A s = true then (fun k => if k = 4 * A 26 + 1 then A k - 1 else bhd (cntA A s) 1 k) else bhd (bhd (cntA A s) 0) 0
