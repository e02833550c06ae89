/-! questions: one answer for both -/
noncomputable def cs {α : Type} (c : Prop) (a b : α) : α := @ite α c (Classical.propDecidable c) a b
theorem cs_t {α : Type} {c : Prop} {a b : α} (h : c) : cs c a b = a := if_pos h
theorem cs_f {α : Type} {c : Prop} {a b : α} (h : ¬ c) : cs c a b = b := if_neg h
/-- BAD, STATE, or the answer -/
noncomputable def ans (c : Prop) (A : Nat → Nat) (v : Int32) : Int32 := cs c (cs (2 ≤ A 24) v (-2)) (-1)
def hc (A : Nat → Nat) (a : Int32) : Prop := 0 ≤ a ∧ a ≤ nI (A 24) - 1
def wc (lo hi a : Int32) : Prop := lo ≤ a ∧ a ≤ hi
theorem ans_bad {c : Prop} {A : Nat → Nat} {v : Int32} (h : ¬ c) : ans c A v = -1 := cs_f h
theorem ans_two {c : Prop} {A : Nat → Nat} {v : Int32} (h : c) (h2 : A 24 < 2) : ans c A v = -2 := (cs_t h).trans (cs_f (by omega))
theorem ans_yes {c : Prop} {A : Nat → Nat} {v : Int32} (h : c) (h2 : 2 ≤ A 24) : ans c A v = v := (cs_t h).trans (cs_t h2)
def KX (σ τ : Mem) : Prop := (∀ a b, (a < 19 ∨ (26 ≤ a ∧ a < 61) ∨ 64 ≤ a) → τ.1 a b = σ.1 a b) ∧ τ.2 = σ.2
theorem KX.rf {σ : Mem} : KX σ σ := ⟨fun _ _ _ => rfl, rfl⟩
theorem KX.tr {σ τ υ : Mem} (h1 : KX σ τ) (h2 : KX τ υ) : KX σ υ := ⟨fun a b h => (h2.1 a b h).trans (h1.1 a b h), h2.2.trans h1.2⟩
theorem KX.of {σ τ : Mem} (h : ∀ a b, (a < 19 ∨ 19 + 7 ≤ a) → τ.1 a b = σ.1 a b) (h2 : τ.2 = σ.2) : KX σ τ := ⟨fun a b q => h a b (by omega), h2⟩
def KM (σ τ : Mem) : Prop := ∀ a b, a ≠ 66 → a ≠ 71 → a ≠ 72 → a ≠ 73 → a ≠ 77 → ¬ (a = 64 ∧ 17 ≤ b ∧ b ≤ 19) → τ.1 a b = σ.1 a b
theorem KM.rf {σ : Mem} : KM σ σ := fun _ _ _ _ _ _ _ _ => rfl
theorem KM.tr {σ τ υ : Mem} (h1 : KM σ τ) (h2 : KM τ υ) : KM σ υ := fun a b p1 p2 p3 p4 p5 p6 => (h2 a b p1 p2 p3 p4 p5 p6).trans (h1 a b p1 p2 p3 p4 p5 p6)
theorem KR.km {σ τ : Mem} (h : KR σ τ) : KM σ τ := fun a b p1 _ _ _ _ p6 => h.1 a b p1 p6
theorem x_isHeir {a : Int32} {σ : Mem} {A : Nat → Nat} {Q : Int32 → Mem → Prop} (hn : σ.1 12 2 = nI (A 24)) (h1 : ¬ hc A a → Q 0 σ) (h2 : hc A a → Q 1 σ) : wp_X5_isHeir a σ Q := by
  unfold wp_X5_isHeir
  rw [wi_iff, hn]
  by_cases h : (0 : Int32) ≤ a ∧ a ≤ nI (A 24) - 1
  · rw [if_pos h]
    exact ⟨Or.inr rfl, h2 h⟩
  · rw [if_neg h]
    exact ⟨Or.inl rfl, h1 h⟩
theorem x_isPlace {a : Int32} {σ : Mem} {A : Nat → Nat} {Q : Int32 → Mem → Prop} (hn : σ.1 12 2 = nI (A 24)) (h1 : ¬ hc A a → Q 0 σ) (h2 : hc A a → Q 1 σ) : wp_X5_isPlace a σ Q := x_isHeir hn h1 h2
theorem x_wi {a lo hi : Int32} {σ : Mem} {Q : Int32 → Mem → Prop} (h1 : ¬ wc lo hi a → Q 0 σ) (h2 : wc lo hi a → Q 1 σ) : wp_X5_within a lo hi σ Q := by
  rw [wi_iff]
  by_cases h : lo ≤ a ∧ a ≤ hi
  · rw [if_pos h]
    exact h2 h
  · rw [if_neg h]
    exact h1 h
theorem x_isAhead {a : Int32} {σ : Mem} {Q : Int32 → Mem → Prop} (h1 : ¬ wc 0 60 a → Q 0 σ) (h2 : wc 0 60 a → Q 1 σ) : wp_X5_isAhead a σ Q := x_wi (fun h => ⟨Or.inl rfl, h1 h⟩) (fun h => ⟨Or.inr rfl, h2 h⟩)
theorem x_isWhich {a : Int32} {σ : Mem} {Q : Int32 → Mem → Prop} (h1 : ¬ wc 0 1 a → Q 0 σ) (h2 : wc 0 1 a → Q 1 σ) : wp_X5_isWhichOrMuch a σ Q := x_wi (fun h => ⟨Or.inl rfl, h1 h⟩) (fun h => ⟨Or.inr rfl, h2 h⟩)
theorem m_heir {a : Int32} {σ : Mem} {A : Nat → Nat} {Q : Int32 → Mem → Prop} (hn : σ.1 65 24 = nI (A 24)) (h1 : ¬ hc A a → Q 0 σ) (h2 : hc A a → Q 1 σ) : wp_X6_isHeir a σ Q := by
  refine m_isHeir ?_
  rw [hn]
  by_cases h : (0 : Int32) ≤ a ∧ a ≤ nI (A 24) - 1
  · rw [if_pos h]
    exact h2 h
  · rw [if_neg h]
    exact h1 h
theorem m_wi {a : Int32} (lo hi : Int32) {b c : Int64} {σ : Mem} {Q : Int32 → Mem → Prop} (hb : b = lo.toInt64) (hc : c = hi.toInt64) (h1 : ¬ wc lo hi a → Q 0 σ) (h2 : wc lo hi a → Q 1 σ) : wp_X6_in a.toInt64 b c σ Q := by
  rw [in32 lo hi hb hc]
  by_cases h : lo ≤ a ∧ a ≤ hi
  · rw [if_pos h]
    exact h2 h
  · rw [if_neg h]
    exact h1 h
theorem m_far {a : Int32} {σ : Mem} {Q : Int32 → Mem → Prop} (h1 : ¬ wc 0 60 a → Q 0 σ) (h2 : wc 0 60 a → Q 1 σ) : wp_X6_isFar a σ Q := m_wi 0 60 rfl rfl (fun h => ⟨Or.inl rfl, h1 h⟩) (fun h => ⟨Or.inr rfl, h2 h⟩)
theorem m_part {a : Int32} {σ : Mem} {Q : Int32 → Mem → Prop} (h1 : ¬ wc 0 1 a → Q 0 σ) (h2 : wc 0 1 a → Q 1 σ) : wp_X6_isPart a σ Q := m_wi 0 1 rfl rfl (fun h => ⟨Or.inl rfl, h1 h⟩) (fun h => ⟨Or.inr rfl, h2 h⟩)
theorem m_twoR {σ : Mem} {A : Nat → Nat} (hR : Rl (σ.1 65) A) {Q : Int32 → Mem → Prop} (h1 : A 24 < 2 → Q 0 σ) (h2 : 2 ≤ A 24 → Q 1 σ) : wp_X6_areTwo σ Q := by
  have := hR.1.1
  refine m_two hR.2.1 (by omega) ?_
  by_cases h : 2 ≤ A 24
  · rw [if_pos h]
    exact h2 h
  · rw [if_neg h]
    exact h1 (by omega)
theorem b01 {A B : Prop} (h : A) : ((0 : Int32) = 0 → A) ∧ (¬ (0 : Int32) = 0 → B) := ⟨fun _ => h, fun q => absurd rfl q⟩
theorem b11 {A B : Prop} (h : B) : ((1 : Int32) = 0 → A) ∧ (¬ (1 : Int32) = 0 → B) := ⟨fun q => absurd q (by decide), fun _ => h⟩
theorem b00 {A B : Prop} (h : A) : (¬ (0 : Int32) = 0 → B) ∧ ((0 : Int32) = 0 → A) := ⟨fun q => absurd rfl q, fun _ => h⟩
theorem b10 {A B : Prop} (h : B) : (¬ (1 : Int32) = 0 → B) ∧ ((1 : Int32) = 0 → A) := ⟨fun _ => h, fun q => absurd q (by decide)⟩
theorem x_ref {a1 : Int32} {σ : Mem} {A : Nat → Nat} {G : Mem → Prop} {Q : Int32 → Mem → Prop} (hR : RX σ 12 A) (h1 : a1 = 0 → Q (-1) σ) (h2 : ¬ a1 = 0 → A 24 < 2 → Q (-2) σ) (h3 : ¬ a1 = 0 → 2 ≤ A 24 → G σ) : wp_X5_refusal a1 σ (fun r τ => (r = 0 → G τ) ∧ (¬ r = 0 → Q r τ)) := by
  have w := hR.1.1
  unfold wp_X5_refusal
  rw [hR.2.1]
  refine ⟨fun h => ?_, fun h => ⟨fun q => absurd q (by decide), fun _ => h1 h⟩⟩
  refine pk_le 2 (A 24) (fun q => ⟨fun _ => h3 h q, fun q => absurd rfl q⟩) (fun q => ⟨fun q => absurd q (by decide), fun _ => h2 h q⟩)
/-- copy now to trial, and go on -/
theorem x_try {σ : Mem} {A : Nat → Nat} {Q : Mem → Prop} (hR : RX σ 12 A) (hQ : ∀ τ : Mem, RX τ 19 A → τ.1 19 8 = -4 → KX σ τ → Q τ) : wp_X0_copyFrom 19 12 σ Q :=
  x_copy hR (by omega) (fun τ t1 t4 t2 t3 => hQ τ t1 t4 (KX.of t2 t3))
theorem m_try {σ : Mem} {A : Nat → Nat} {Q : Mem → Prop} (hR : Rl (σ.1 65) A) (hQ : ∀ τ : Mem, Rl (τ.1 66) A → (∀ k, k < 49 → τ.1 66 k = σ.1 65 k) → KM σ τ → Q τ) : wp_X6_starts σ Q :=
  m_starts (fun τ t1 t2 t3 => hQ τ (hR.fr (fun k hk => t1 k (by omega))) t1 (fun a b p1 _ _ _ _ _ => t2 a b p1))
theorem RX.now {σ τ : Mem} {A : Nat → Nat} (h : RX σ 12 A) (k : KX σ τ) : RX τ 12 A := h.frame (fun a b q1 q2 => k.1 a b (by omega))
theorem Rl.now {σ τ : Mem} {A : Nat → Nat} (h : Rl (σ.1 65) A) (k : KM σ τ) : Rl (τ.1 65) A := h.fr (fun j _ => k 65 j (by omega) (by omega) (by omega) (by omega) (by omega) (by omega))
/-! soonest -/
noncomputable def fstA (h : Nat) : Nat → Nat → (Nat → Nat) → Int32
  | 0, _, _ => -4
  | m + 1, j, A => cs (A 26 = h) (nI j) (fstA h m (j + 1) (crA A false))
theorem x_first {h : Nat} {σ : Mem} {A : Nat → Nat} {Q : Int32 → Mem → Prop} (hR : RX σ 12 A) (h2 : 2 ≤ A 24) (hh : h < A 24) (hQ : ∀ τ : Mem, KX σ τ → Q (fstA h 60 1 A) τ) : wp_X5_firstReignOf (nI h) σ Q := by
  intro P13 hP
  have key : ∀ m j : Nat, ∀ B : Nat → Nat, ∀ τ : Mem, j + m = 61 → RX τ 19 B → B 24 = A 24 → fstA h m j B = fstA h 60 1 A → KX σ τ → P13 (nI j) τ := by
    intro m
    induction m with
    | zero =>
      intro j B τ hj g1 g2 g3 g4
      apply hP
      refine pk_lt 60 j (fun _ => ?_) (fun q => by omega)
      have := hQ τ g4
      rw [← g3] at this
      exact this
    | succ m ih =>
      intro j B τ hj g1 g2 g3 g4
      apply hP
      refine pk_lt 60 j (fun q => by omega) (fun _ => ?_)
      have w1 := g1.1.1
      have w3 := g1.1.2.2.1 1 (by omega)
      simp only [Nat.reduceAdd] at w3
      refine x_crown0 g1 (by omega) (fun υ u1 u8 _ _ _ _ u2 u3 => ?_)
      rw [u8]
      refine ⟨fun q => ?_, fun q => ?_⟩
      · rintro _ rfl
        rw [nI_1]
        have hne : ¬ B 26 = h := fun e => q (by rw [e])
        refine ih (j + 1) _ υ (by omega) u1 (by rw [crA_n g1.1 (by omega), g2]) ?_ (g4.tr (KX.of u2 u3))
        rw [← g3]
        exact (cs_f hne).symm
      · have he : B 26 = h := (nI_eq (by omega) (by omega)).mp q
        have := hQ υ (g4.tr (KX.of u2 u3))
        rw [← g3] at this
        rw [show fstA h (m + 1) j B = nI j from cs_t he] at this
        exact this
  exact x_try hR (fun τ t1 _ t2 => key 60 1 A τ (by omega) t1 rfl rfl t2)
theorem m_first {h : Nat} {σ : Mem} {A : Nat → Nat} {Q : Int32 → Mem → Prop} (hR : Rl (σ.1 66) A) (h2 : 2 ≤ A 24) (hh : h < A 24) (hQ : ∀ τ : Mem, KR σ τ → Q (fstA h 60 1 A) τ) : wp_X6_reignOf (nI h) σ Q := by
  intro P2 hP
  have key : ∀ m j : Nat, ∀ B : Nat → Nat, ∀ τ : Mem, j + m = 61 → Rl (τ.1 66) B → B 24 = A 24 → fstA h m j B = fstA h 60 1 A → KR σ τ → P2 (nI j) τ := by
    intro m
    induction m with
    | zero =>
      intro j B τ hj g1 g2 g3 g4
      apply hP
      refine pk_lt 60 j (fun _ => ?_) (fun q => by omega)
      have := hQ τ g4
      rw [← g3] at this
      exact this
    | succ m ih =>
      intro j B τ hj g1 g2 g3 g4
      apply hP
      refine pk_lt 60 j (fun q => by omega) (fun _ => ?_)
      have w1 := g1.1.1
      have w3 := g1.1.2.2.1 1 (by omega)
      simp only [Nat.reduceAdd] at w3
      refine m_reign0 g1 (by omega) (fun υ u1 u8 _ _ u2 => ?_)
      rw [u8]
      refine ⟨fun q => ?_, fun q => ?_⟩
      · rintro _ rfl
        rw [nI_1]
        have hne : ¬ B 26 = h := fun e => q (by rw [e])
        refine ih (j + 1) _ υ (by omega) u1 (by rw [crA_n g1.1 (by omega), g2]) ?_ (g4.tr u2)
        rw [← g3]
        exact (cs_f hne).symm
      · have he : B 26 = h := (nI_eq (by omega) (by omega)).mp q
        have := hQ υ (g4.tr u2)
        rw [← g3] at this
        rw [show fstA h (m + 1) j B = nI j from cs_t he] at this
        exact this
  exact key 60 1 A σ (by omega) hR rfl rfl KR.rf
theorem hc_of {A : Nat → Nat} {a : Int32} (w : A 24 ≤ 6) (h : hc A a) : ∃ j, j < A 24 ∧ a = nI j := (in_split a (A 24) (by omega)).elim id (fun q => absurd h q)
theorem hc_nI {A : Nat → Nat} {j : Nat} (w : A 24 ≤ 6) (h : j < A 24) : hc A (nI j) := in_yes (by omega) h
theorem wc_of {n : Nat} {hi a : Int32} (hh : hi = nI n) (hn : n < 2 ^ 30) (h : wc 0 hi a) : ∃ j, j ≤ n ∧ a = nI j := by
  subst hh
  have h0 : ¬ a < 0 := Int32.not_lt.mpr h.1
  obtain ⟨j, hj, rfl⟩ := nI_of h0
  exact ⟨j, (nI_leI hj (by omega)).mp h.2, rfl⟩
noncomputable def aSoonest (A : Nat → Nat) (a : Int32) : Int32 := ans (hc A a) A (fstA a.toNatClampNeg 60 1 A)
theorem x_soonest {a : Int32} {σ : Mem} {A : Nat → Nat} {Q : Int32 → Mem → Prop} (hR : RX σ 12 A) (hQ : ∀ τ : Mem, KX σ τ → Q (aSoonest A a) τ) : wp_X5_soonest a σ Q := by
  have w := hR.1.1
  unfold wp_X5_soonest
  refine x_isHeir hR.2.1 (fun h => ?_) (fun h => ?_)
  · refine x_ref hR (fun _ => ?_) (fun q => absurd rfl q) (fun q => absurd rfl q)
    have := hQ σ KX.rf
    rw [show aSoonest A a = -1 from ans_bad h] at this
    exact this
  · refine x_ref hR (fun q => absurd q (by decide)) (fun _ q => ?_) (fun _ q => ?_)
    · have := hQ σ KX.rf
      rw [show aSoonest A a = -2 from ans_two h q] at this
      exact this
    · obtain ⟨j, hj, rfl⟩ := hc_of w h
      refine x_first hR q hj (fun τ t => ?_)
      have := hQ τ t
      rw [show aSoonest A (nI j) = fstA (nI j).toNatClampNeg 60 1 A from ans_yes h q, nI_clamp (by omega)] at this
      exact this
theorem m_soonest {a : Int32} {σ : Mem} {A : Nat → Nat} {Q : Int32 → Mem → Prop} (hR : Rl (σ.1 65) A) (hQ : ∀ τ : Mem, KM σ τ → Q (aSoonest A a) τ) : wp_X6_soonest a σ Q := by
  have w := hR.1.1
  unfold wp_X6_soonest
  refine m_heir hR.2.1 (fun h => b00 ?_) (fun h => b10 ?_)
  · have := hQ σ KM.rf
    rw [show aSoonest A a = -1 from ans_bad h] at this
    exact this
  · refine m_twoR hR (fun q => b00 ?_) (fun q => b10 ?_)
    · have := hQ σ KM.rf
      rw [show aSoonest A a = -2 from ans_two h q] at this
      exact this
    · obtain ⟨j, hj, rfl⟩ := hc_of w h
      refine m_try hR (fun τ t1 _ t2 => ?_)
      refine m_first t1 q hj (fun υ u => ?_)
      have := hQ υ (t2.tr u.km)
      rw [show aSoonest A (nI j) = fstA (nI j).toNatClampNeg 60 1 A from ans_yes h q, nI_clamp (by omega)] at this
      exact this
