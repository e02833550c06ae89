/-! several reigns -/
noncomputable def itA : Nat → (Nat → Nat) → (Nat → Nat)
  | 0, A => A
  | n + 1, A => crA (itA n A) false
theorem it_wf {A : Nat → Nat} (w : WF A) (h2 : 2 ≤ A 24) (n : Nat) : WF (itA n A) ∧ itA n A 24 = A 24 := by
  induction n with
  | zero => exact ⟨w, rfl⟩
  | succ n ih =>
    refine ⟨?_, ?_⟩
    · exact ih.1.cr (by rw [ih.2]; exact h2)
    · show crA (itA n A) false 24 = A 24
      rw [crA_n ih.1 (by rw [ih.2]; exact h2), ih.2]
theorem it_app {A : Nat → Nat} (n m : Nat) : itA n (itA m A) = itA (m + n) A := by
  induction n with
  | zero => rfl
  | succ n ih =>
    show crA (itA n (itA m A)) false = crA (itA (m + n) A) false
    rw [ih]
theorem x_crown0 {d : Nat} {σ : Mem} {A : Nat → Nat} {Q : Mem → Prop} (hR : RX σ d A) (h2 : 2 ≤ A 24)
    (hQ : ∀ τ : Mem, RX τ d (crA A false) → τ.1 d 8 = nI (A 26) → τ.1 d 9 = nI (spanA A false) → τ.1 d 10 = bI (!(fellA A false)) → (odd32 (A 33 + 1) → τ.1 d 11 = 1) → (¬ odd32 (A 33 + 1) → τ.1 d 11 = 0) → (∀ a b, (a < d ∨ d + 7 ≤ a) → τ.1 a b = σ.1 a b) → τ.2 = σ.2 → Q τ) : wp_X0_crown d 0 σ Q :=
  x_crown (Or.inl ⟨rfl, rfl⟩) hR h2 hQ
theorem x_pass {d n : Nat} {σ : Mem} {A : Nat → Nat} {Q : Mem → Prop} (hR : RX σ d A) (h2 : 2 ≤ A 24) (hn : n < 2 ^ 31)
    (hQ : ∀ τ : Mem, RX τ d (itA n A) → (∀ a b, (a < d ∨ d + 7 ≤ a) → τ.1 a b = σ.1 a b) → τ.2 = σ.2 → Q τ) : wp_X0_pass d (nI n) σ Q := by
  intro P2 hP
  have key : ∀ m j : Nat, ∀ τ : Mem, j + m = n → RX τ d (itA j A) → (∀ a b, (a < d ∨ d + 7 ≤ a) → τ.1 a b = σ.1 a b) → τ.2 = σ.2 → P2 (nI j) τ := by
    intro m
    induction m with
    | zero =>
      intro j τ hj g1 g2 g3
      apply hP
      refine pk_le n j (fun _ => ?_) (fun q => by omega)
      rw [show j = n by omega] at g1
      exact hQ τ g1 g2 g3
    | succ m ih =>
      intro j τ hj g1 g2 g3
      apply hP
      refine pk_le n j (fun q => by omega) (fun _ => ?_)
      refine x_crown0 g1 (by rw [(it_wf hR.1 h2 j).2]; exact h2) (fun υ u1 _ _ _ _ _ u2 u3 => ?_)
      rintro _ rfl
      rw [nI_1]
      exact ih (j + 1) υ (by omega) u1 (fun a b h => (u2 a b h).trans (g2 a b h)) (u3.trans g3)
  exact key n 0 σ (by omega) hR (fun _ _ _ => rfl) rfl
theorem x_works {d n : Nat} {σ : Mem} {A : Nat → Nat} {Q : Int32 → Mem → Prop} (hR : RX σ d A) (h2 : 2 ≤ A 24) (hn : n < 2 ^ 31)
    (hQ : ∀ τ : Mem, RX τ d (itA n A) → (∀ a b, (a < d ∨ d + 7 ≤ a) → τ.1 a b = σ.1 a b) → τ.2 = σ.2 → Q (nI (itA n A 32)) τ) : wp_X0_worksBehind d (nI n) σ Q := by
  refine x_pass hR h2 hn (fun τ t1 t2 t3 => ?_)
  have := t1.2.2.2.2 32 (by omega) (by omega)
  simp only [Nat.reduceSub] at this
  rw [this]
  exact hQ τ t1 t2 t3
/-! THE REFERENCE: numbers, one reign -/
theorem lg_lt0 {x y : Int64} : (lg_cmp x y < 0) ↔ x < y := lg_cmp_lt x y
theorem in_iff {a b c : Int64} {σ : Mem} {Q : Int32 → Mem → Prop} : wp_X6_in a b c σ Q ↔ Q (if b ≤ a ∧ a ≤ c then 1 else 0) σ := by
  unfold wp_X6_in
  rw [lg_cmp_lt, lg_cmp_gt]
  by_cases h1 : a < b
  · have : ¬ (b ≤ a ∧ a ≤ c) := fun q => absurd q.1 (Int64.not_le.mpr h1)
    simp [h1, this]
  · by_cases h2 : c < a
    · have : ¬ (b ≤ a ∧ a ≤ c) := fun q => absurd q.2 (Int64.not_le.mpr h2)
      simp [h1, h2, this]
    · have : b ≤ a ∧ a ≤ c := ⟨Int64.not_lt.mp h1, Int64.not_lt.mp h2⟩
      simp [h1, h2, this]
theorem le64 (x y : Int32) : x.toInt64 ≤ y.toInt64 ↔ x ≤ y := by
  rw [Int64.le_iff_toInt_le, Int32.le_iff_toInt_le, Int32.toInt_toInt64, Int32.toInt_toInt64]
theorem in32 {a : Int32} (lo hi : Int32) {b c : Int64} (hb : b = lo.toInt64) (hc : c = hi.toInt64) {σ : Mem} {Q : Int32 → Mem → Prop} : wp_X6_in a.toInt64 b c σ Q ↔ Q (if lo ≤ a ∧ a ≤ hi then 1 else 0) σ := by
  subst hb; subst hc
  rw [in_iff]
  simp only [le64]
theorem if01 {c : Prop} [Decidable c] : (if c then (1 : Int32) else 0) = 0 ∨ (if c then (1 : Int32) else 0) = 1 := by
  by_cases h : c <;> simp [h]
theorem br_if {c A B : Prop} [Decidable c] (h1 : ¬ c → A) (h2 : c → B) : ((if c then (1 : Int32) else 0) = 0 → A) ∧ (¬ (if c then (1 : Int32) else 0) = 0 → B) := by
  by_cases h : c
  · rw [if_pos h]
    exact ⟨fun q => absurd q (by decide), fun _ => h2 h⟩
  · rw [if_neg h]
    exact ⟨fun _ => h1 h, fun q => absurd rfl q⟩
theorem br_fi {c A B : Prop} [Decidable c] (h1 : ¬ c → B) (h2 : c → A) : (¬ (if c then (1 : Int32) else 0) = 0 → A) ∧ ((if c then (1 : Int32) else 0) = 0 → B) := ⟨(br_if h1 h2).2, (br_if h1 h2).1⟩
theorem m_isHeir {a : Int32} {σ : Mem} {Q : Int32 → Mem → Prop} (h : Q (if 0 ≤ a ∧ a ≤ σ.1 65 24 - 1 then 1 else 0) σ) : wp_X6_isHeir a σ Q := (in32 0 (σ.1 65 24 - 1) rfl rfl).mpr ⟨if01, h⟩
theorem m_isPart {a : Int32} {σ : Mem} {Q : Int32 → Mem → Prop} (h : Q (if 0 ≤ a ∧ a ≤ 1 then 1 else 0) σ) : wp_X6_isPart a σ Q := (in32 0 1 rfl rfl).mpr ⟨if01, h⟩
theorem m_isFar {a : Int32} {σ : Mem} {Q : Int32 → Mem → Prop} (h : Q (if 0 ≤ a ∧ a ≤ 60 then 1 else 0) σ) : wp_X6_isFar a σ Q := (in32 0 60 rfl rfl).mpr ⟨if01, h⟩
theorem m_two {σ : Mem} {n : Nat} (hn : σ.1 65 24 = nI n) (hs : n < 2 ^ 31) {Q : Int32 → Mem → Prop} (h : Q (if 2 ≤ n then 1 else 0) σ) : wp_X6_areTwo σ Q := by
  unfold wp_X6_areTwo
  rw [show ((24 : Int32)).toNatClampNeg = 24 from rfl, hn]
  refine pk_le n 1 (fun q => ?_) (fun q => ?_)
  · rw [if_neg (by omega)] at h
    exact h
  · rw [if_pos (by omega)] at h
    exact h
theorem m_of {h w : Nat} {σ : Mem} {Q : Int32 → Mem → Prop} (hh : 4 * h + w < 49) (hQ : Q (σ.1 66 (4 * h + w)) σ) : wp_X6_of (nI h) (nI w) σ Q := by
  unfold wp_X6_of
  rw [show (4 : Int32) = nI 4 from rfl, pk_mul, nI_add]
  refine ⟨pk_in (4 * h + w) 49 hh, ?_⟩
  rw [nI_clamp (show 4 * h + w < 2 ^ 31 by omega)]
  exact hQ
theorem m_becOf {h w : Nat} {v : Int32} {σ : Mem} {Q : Mem → Prop} (hh : 4 * h + w < 49) (hQ : Q (st1 σ 66 (4 * h + w) v)) : wp_X6_becomesOf (nI h) (nI w) v σ Q := by
  unfold wp_X6_becomesOf
  rw [show (4 : Int32) = nI 4 from rfl, pk_mul, nI_add]
  refine ⟨pk_in (4 * h + w) 49 hh, ?_⟩
  rw [nI_clamp (show 4 * h + w < 2 ^ 31 by omega)]
  rintro _ rfl
  exact hQ
theorem m_height {h : Nat} {σ : Mem} {A : Nat → Nat} {Q : Int32 → Mem → Prop} (hR : Rl (σ.1 66) A) (hh : h < A 24) (hQ : Q (nI (hgt A h)) σ) : wp_X6_height (nI h) σ Q := by
  obtain ⟨⟨w1, w2, -⟩, -, h2, -⟩ := hR
  obtain ⟨v0, v1, v2, v3, -⟩ := w2 h hh
  have eb := h2 h 2 hh (by omega)
  have ek := h2 h 0 hh (by omega)
  simp only [Nat.add_zero] at ek
  unfold wp_X6_height
  rw [show (2 : Int32) = nI 2 from rfl]
  refine m_of (by omega) ?_
  rintro _ rfl
  rw [show (0 : Int32) = nI 0 from rfl]
  refine m_of (by omega) ?_
  simp only [Nat.add_zero, ek, eb]
  have e1 : nI (A (4 * h + 2)) + (nI (A (4 * h + 2)) + 1) / nI 2 = nI (A (4 * h + 2) + (A (4 * h + 2) + 1) / 2) := by
    rw [nI_1, pk_div (by omega) (by omega) (by omega), nI_add]
  have e2 : nI (A (4 * h + 2) + (A (4 * h + 2) + 1) / 2) / nI 2 = nI ((A (4 * h + 2) + (A (4 * h + 2) + 1) / 2) / 2) := by
    rw [pk_div (by omega) (by omega) (by omega)]
  rw [e1, e2]
  refine ⟨?_, ?_, ?_, ?_⟩
  · intro q
    rw [show (1 : Int32) = nI 1 from rfl, nI_eq (by omega) (by omega)] at q
    unfold hgt at hQ
    rw [if_pos q] at hQ
    exact hQ
  · intro q
    rw [nI_eq (by omega) (by omega)] at q
    unfold hgt at hQ
    rw [if_neg (by omega), if_pos q] at hQ
    exact hQ
  · intro q
    rw [show (3 : Int32) = nI 3 from rfl, nI_eq (by omega) (by omega)] at q
    unfold hgt at hQ
    rw [if_neg (by omega), if_neg (by omega), if_pos q] at hQ
    refine pk_le ((A (4 * h + 2) + (A (4 * h + 2) + 1) / 2) / 2) 0 (fun z => ?_) (fun z => ?_)
    · rw [show (A (4 * h + 2) + (A (4 * h + 2) + 1) / 2) / 2 - 1 = 0 by omega] at hQ
      exact hQ
    · rw [nI_p1 z]
      exact hQ
  · intro q1 q2 q3
    rw [show (1 : Int32) = nI 1 from rfl, nI_eq (by omega) (by omega)] at q1
    rw [nI_eq (by omega) (by omega)] at q2
    rw [show (3 : Int32) = nI 3 from rfl, nI_eq (by omega) (by omega)] at q3
    unfold hgt at hQ
    rw [if_neg q1, if_neg q2, if_neg q3] at hQ
    exact hQ
theorem tc24 : ((24 : Int32)).toNatClampNeg = 24 := rfl
theorem m_goes {p : Nat} {σ : Mem} {A : Nat → Nat} {Q : Mem → Prop} (hR : Rl (σ.1 66) A) (hp : p < A 24)
    (hQ : ∀ τ : Mem, Rl (τ.1 66) (bhd A p) → (∀ a b, a ≠ 66 → τ.1 a b = σ.1 a b) → (∀ b, (b < 25 ∨ 31 ≤ b) → τ.1 66 b = σ.1 66 b) → τ.2 = σ.2 → Q τ) : wp_X6_goesBehind (nI p) σ Q := by
  obtain ⟨hW, hn, r2, r3, r4⟩ := hR
  have w1 := hW.1
  have e24 := bhd_n (A := A) (p := p) (by omega)
  intro P12 hP
  rw [show (25 : Int32) = nI 25 from rfl, nI_add]
  refine ⟨pk_in (25 + p) 49 (by omega), ?_⟩
  rintro _ rfl
  rw [nI_clamp (show 25 + p < 2 ^ 31 by omega), r3 p hp]
  simp only [tc24] at hP
  have key : ∀ m i : Nat, ∀ τ : Mem, i + m + 1 = A 24 → p ≤ i → (∀ j, τ.1 66 (25 + j) = if p ≤ j ∧ j < i then σ.1 66 (25 + (j + 1)) else σ.1 66 (25 + j)) → (∀ a b, a ≠ 66 → τ.1 a b = σ.1 a b) → (∀ b, (b < 25 ∨ 31 ≤ b) → τ.1 66 b = σ.1 66 b) → τ.2 = σ.2 → P12 (nI (A (25 + p))) (nI i) τ := by
    intro m
    induction m with
    | zero =>
      intro i τ hi hpi h1 h2 h5 h3
      apply hP
      rw [h5 24 (by omega), hn, nI_p1 (by omega), show (25 : Int32) = nI 25 from rfl]
      refine pk_le (A 24 - 1) i (fun _ => ?_) (fun q => by omega)
      rw [nI_add, nI_p1 (by omega)]
      refine ⟨pk_in (25 + A 24 - 1) 49 (by omega), ?_⟩
      rintro _ rfl
      rw [nI_clamp (show 25 + A 24 - 1 < 2 ^ 31 by omega)]
      refine hQ _ ⟨wfBhd hW hp, ?_, ?_, ?_, ?_⟩ (fun a b h => ?_) (fun b h => ?_) h3
      · rw [st1_get, if_neg (by omega), h5 _ (by omega), e24]
        exact hn
      · intro h w hh hw
        rw [e24] at hh
        rw [st1_get, if_neg (by omega), h5 _ (by omega), bhd_lo (by omega) (by omega)]
        exact r2 h w hh hw
      · intro j hj
        rw [e24] at hj
        rw [st1_get, h1, bhd_l hp hj]
        by_cases e1 : j = A 24 - 1
        · rw [if_pos (by omega), if_neg (by omega), if_neg (by omega)]
        · rw [if_neg (by omega)]
          by_cases e2 : j < p
          · rw [if_neg (by omega), if_pos e2]
            exact r3 j hj
          · rw [if_pos (by omega), if_neg e2, if_pos (by omega)]
            exact r3 _ (by omega)
      · intro k k1 k2
        rw [st1_get, if_neg (by omega), h5 _ (by omega), bhd_hi w1 k1]
        exact r4 k k1 k2
      · rw [st1_get, if_neg (by omega)]
        exact h2 a b h
      · rw [st1_get, if_neg (by omega)]
        exact h5 b h
    | succ m ih =>
      intro i τ hi hpi h1 h2 h5 h3
      apply hP
      rw [h5 24 (by omega), hn, nI_p1 (by omega), show (25 : Int32) = nI 25 from rfl]
      refine pk_le (A 24 - 1) i (fun q => by omega) (fun _ => ?_)
      rw [nI_add, nI_1]
      refine ⟨pk_in (25 + i + 1) 49 (by omega), pk_in (25 + i) 49 (by omega), ?_⟩
      rintro _ rfl _ rfl
      rw [nI_clamp (show 25 + i < 2 ^ 31 by omega), nI_clamp (show 25 + i + 1 < 2 ^ 31 by omega), nI_1]
      refine ih (i + 1) _ (by omega) (by omega) (fun j => ?_) (fun a b h => ?_) (fun b h => ?_) h3
      · rw [st1_get, show 25 + i + 1 = 25 + (i + 1) by omega, h1, h1]
        by_cases e1 : j = i
        · subst e1
          rw [if_pos ⟨rfl, rfl⟩, if_neg (by omega), if_pos (by omega)]
        · rw [if_neg (by omega)]
          by_cases e2 : p ≤ j ∧ j < i
          · rw [if_pos e2, if_pos (by omega)]
          · rw [if_neg e2, if_neg (by omega)]
      · rw [st1_get, if_neg (by omega)]
        exact h2 a b h
      · rw [st1_get, if_neg (by omega)]
        exact h5 b h
  refine key (A 24 - 1 - p) p σ (by omega) (by omega) (fun j => ?_) (fun _ _ _ => rfl) (fun _ _ => rfl) rfl
  rw [if_neg (by omega)]
