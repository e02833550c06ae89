/-! the tape's ends; images; sheets; counts -/
def TX (σ : Mem) (T : Nat) (t : Nat → Nat) : Prop := T ≤ 160 ∧ σ.1 1 1 = nI T ∧ ∀ i, i < T → t i ≤ 127 ∧ σ.1 2 i = nI (t i)
def TM (σ : Mem) (T : Nat) (t : Nat → Nat) : Prop := T ≤ 160 ∧ σ.1 64 10 = nI T ∧ ∀ i, i < T → t i ≤ 127 ∧ σ.1 70 i = nI (t i)
theorem byte_id : ∀ c : Nat, c < 128 → vp_nar .byte ((nI c).toInt8.toInt32) = nI c := by decide +kernel
theorem x_feed {a : Int32} {σ : Mem} {T : Nat} {t : Nat → Nat} {Q : Int32 → Mem → Prop} (hT : TX σ T t) (h0 : ¬ wc 0 127 a → Q (-1) σ) (h1 : wc 0 127 a → T = 160 → Q (-3) σ)
    (h2 : ∀ c, c ≤ 127 → a = nI c → T < 160 → ∀ τ : Mem, TX τ (T + 1) (setA t T c) → (∀ x y, x ≠ 2 → ¬ (x = 1 ∧ y = 1) → τ.1 x y = σ.1 x y) → τ.2 = σ.2 → Q (nI (T + 1)) τ) : wp_X5_feed a σ Q := by
  obtain ⟨t6, e1, e2⟩ := hT
  refine x_wi (fun h => b00 (h0 h)) (fun h => b10 ?_)
  obtain ⟨c, hc, rfl⟩ := wc_of (n := 127) rfl (by omega) h
  unfold wp_X4_push
  rw [e1]
  refine pk_lt T 160 (fun hT => ?_) (fun hT => b01 (h1 h (by omega)))
  refine ⟨pk_in T 160 hT, ?_⟩
  rintro _ rfl
  rw [mm1 (by omega), e1, nI_1, nI_clamp (show T < 2 ^ 31 by omega), byte_id c (by omega)]
  rintro _ rfl
  refine b11 ?_
  rw [mm3]
  refine h2 c hc rfl hT _ ⟨by omega, mm3, fun i hi => ?_⟩ (fun x y q1 q2 => ?_) rfl
  · rw [mm1 (by omega)]
    by_cases e : i = T
    · subst e
      rw [mm3, setA_eq]
      exact ⟨hc, rfl⟩
    · rw [mm2 e, setA_ne e]
      exact e2 i (by omega)
  · rw [st1_get, if_neg (by omega), mm1 q1]
theorem m_feed {a : Int32} {σ : Mem} {T : Nat} {t : Nat → Nat} {Q : Int32 → Mem → Prop} (hT : TM σ T t) (h0 : ¬ wc 0 127 a → Q (-1) σ) (h1 : wc 0 127 a → T = 160 → Q (-3) σ)
    (h2 : ∀ c, c ≤ 127 → a = nI c → T < 160 → ∀ τ : Mem, TM τ (T + 1) (setA t T c) → (∀ x y, x ≠ 70 → ¬ (x = 64 ∧ y = 10) → τ.1 x y = σ.1 x y) → Q (nI (T + 1)) τ) : wp_X6_feed a σ Q := by
  obtain ⟨t6, e1, e2⟩ := hT
  refine m_wi 0 127 rfl rfl (fun h => b00 (h0 h)) (fun h => b10 ?_)
  obtain ⟨c, hc, rfl⟩ := wc_of (n := 127) rfl (by omega) h
  rw [e1]
  refine ⟨fun z => ?_, fun z => h1 h ((nI_eq (b := 160) (by omega) (by omega)).mp z)⟩
  have hT : T < 160 := by
    rcases Nat.lt_or_ge T 160 with q | q
    · exact q
    · exact absurd (by rw [show T = 160 by omega]; rfl) z
  refine ⟨pk_in T 160 hT, ?_⟩
  rintro _ rfl
  rw [mm1 (by omega), e1, nI_1, nI_clamp (show T < 2 ^ 31 by omega)]
  rintro _ rfl
  rw [mm3]
  refine h2 c hc rfl hT _ ⟨by omega, mm3, fun i hi => ?_⟩ (fun x y q1 q2 => ?_)
  · rw [mm1 (by omega)]
    by_cases e : i = T
    · subst e
      rw [mm3, setA_eq]
      exact ⟨hc, rfl⟩
    · rw [mm2 e, setA_ne e]
      exact e2 i (by omega)
  · rw [st1_get, if_neg (by omega), mm1 q1]
theorem x_end {a : Int32} {σ : Mem} {T : Nat} {t : Nat → Nat} {Q : Int32 → Mem → Prop} (hT : TX σ T t) (h0 : ¬ wc 0 (nI T) a → Q (-1) σ) (h1 : ∀ n, n ≤ T → a = nI n → Q (nI T) (st1 σ 1 1 (nI n))) : wp_X5_end a σ Q := by
  obtain ⟨t6, e1, e2⟩ := hT
  unfold wp_X5_end
  rw [e1]
  refine x_wi (fun h => b00 (h0 h)) (fun h => b10 ?_)
  obtain ⟨n, hn, rfl⟩ := wc_of (n := T) rfl (by omega) h
  rintro _ rfl _ rfl
  rw [e1]
  exact h1 n hn rfl
theorem m_end {a : Int32} {σ : Mem} {T : Nat} {t : Nat → Nat} {Q : Int32 → Mem → Prop} (hT : TM σ T t) (h0 : ¬ wc 0 (nI T) a → Q (-1) σ) (h1 : ∀ n, n ≤ T → a = nI n → Q (nI T) (st1 σ 64 10 (nI n))) : wp_X6_end a σ Q := by
  obtain ⟨t6, e1, e2⟩ := hT
  unfold wp_X6_end
  rw [e1]
  refine m_wi 0 (nI T) rfl rfl (fun h => b00 (h0 h)) (fun h => b10 ?_)
  obtain ⟨n, hn, rfl⟩ := wc_of (n := T) rfl (by omega) h
  rintro _ rfl _ rfl
  rw [e1]
  exact h1 n hn rfl
/-! images -/
theorem x_scopy {d o : Nat} {σ : Mem} {A : Nat → Nat} {Q : Mem → Prop} (hS : SX σ o A) (hdo : d + 3 ≤ o ∨ o + 3 ≤ d) (hQ : ∀ τ : Mem, SX τ d A → (∀ a b, (a < d ∨ d + 3 ≤ a) → τ.1 a b = σ.1 a b) → τ.2 = σ.2 → Q τ) : wp_X3_copyFrom d o σ Q := by
  have s6 := hS.1.1
  rintro _ rfl _ rfl _ rfl
  refine hQ _ ⟨hS.1, ?_, fun i hi => ⟨?_, ?_⟩⟩ (fun a b h => ?_) rfl
  · simp (disch := omega) only [mm1, mm2, mm3, mc1, mc3]
    exact hS.2.1
  · simp (disch := omega) only [mm1, mm2, mm3, mc1, mc3]
    rw [cpy6 (by omega)]
    exact (hS.2.2 i hi).1
  · simp (disch := omega) only [mm1, mm2, mm3, mc1, mc3]
    rw [cpy6 (by omega), mc1 (by omega)]
    exact (hS.2.2 i hi).2
  · simp (disch := omega) only [mm1, mc1]
theorem x_keep {a : Int32} {σ : Mem} {A : Nat → Nat} {Q : Int32 → Mem → Prop} (hR : RX σ 12 A) (hS : SX σ 26 A) (h0 : ¬ wc 0 1 a → Q (-1) σ)
    (h1 : ∀ k, k ≤ 1 → a = nI k → (σ.1 (30 + 11 * k) 2 = 0 ∨ σ.1 (30 + 11 * k) 2 = 1) → ∀ τ : Mem, RX τ (30 + 11 * k + 1) A → SX τ (30 + 11 * k + 8) A → τ.1 (30 + 11 * k) 2 = 1 → (∀ x y, (x < 30 + 11 * k ∨ 30 + 11 * k + 11 ≤ x) → τ.1 x y = σ.1 x y) → τ.2 = σ.2 → Q (σ.1 (30 + 11 * k) 2) τ)
    (hb : ∀ k, k ≤ 1 → (σ.1 (30 + 11 * k) 2 = 0 ∨ σ.1 (30 + 11 * k) 2 = 1)) : wp_X5_keep a σ Q := by
  intro P30 h30
  refine x_wi (fun h => b00 (h0 h)) (fun h => b10 ?_)
  obtain ⟨k, hk, rfl⟩ := wc_of (n := 1) rfl (by omega) h
  rw [nI_clamp (show k < 2 ^ 31 by omega)] at h30 ⊢
  refine ⟨pk_in k 2 (by omega), ?_⟩
  have fin : P30 (σ.1 (30 + 11 * k) 2) σ := by
    refine h30 _ _ ⟨pk_in k 2 (by omega), ?_⟩
    rintro _ rfl
    have hR1 : RX (st1 σ (30 + 11 * k) 2 1) 12 A := hR.fr (fun x y q1 q2 q3 => mm1 (by omega))
    refine x_copy hR1 (by omega) (fun τ t1 _ t2 t3 => ?_)
    have hS1 : SX τ 26 A := hS.fr (fun x y q1 q2 => by rw [t2 x y (by omega), mm1 (by omega)])
    refine x_scopy hS1 (by omega) (fun υ u1 u2 u3 => ?_)
    refine h1 k hk rfl (hb k hk) υ (t1.frame (fun x y q1 q2 => u2 x y (by omega))) u1 ?_ (fun x y q => ?_) ?_
    · rw [u2 _ _ (by omega), t2 _ _ (by omega), mm3]
    · rw [u2 _ _ (by omega), t2 _ _ (by omega), mm1 (by omega)]
    · rw [u3, t3]; rfl
  rcases hb k hk with e | e
  · rw [e] at fin ⊢
    exact b01 fin
  · rw [e] at fin ⊢
    exact b11 fin
theorem m_copies {p o : Nat} {σ : Mem} {Q : Mem → Prop} (hp : p + 49 ≤ 147) (ho : o + 49 ≤ 147) (hpo : p + 49 ≤ o ∨ o + 49 ≤ p) (hQ : ∀ τ : Mem, (∀ k, k < 49 → τ.1 65 (p + k) = σ.1 65 (o + k)) → (∀ k, (k < p ∨ p + 49 ≤ k) → τ.1 65 k = σ.1 65 k) → (∀ a b, a ≠ 65 → τ.1 a b = σ.1 a b) → Q τ) : wp_X6_copies (nI p) (nI o) σ Q := by
  intro P2 hP
  have key : ∀ m j : Nat, ∀ τ : Mem, j + m = 49 → (∀ k, k < j → τ.1 65 (p + k) = σ.1 65 (o + k)) → (∀ k, (k < p ∨ p + 49 ≤ k) → τ.1 65 k = σ.1 65 k) → (∀ a b, a ≠ 65 → τ.1 a b = σ.1 a b) → P2 (nI j) τ := by
    intro m
    induction m with
    | zero =>
      intro j τ hj g1 g2 g3
      apply hP
      refine pk_le 49 j (fun _ => ?_) (fun q => by omega)
      exact hQ τ (fun k hk => g1 k (by omega)) g2 g3
    | succ m ih =>
      intro j τ hj g1 g2 g3
      apply hP
      refine pk_le 49 j (fun q => by omega) (fun _ => ?_)
      rw [nI_add, nI_add, nI_clamp (show o + j < 2 ^ 31 by omega), nI_clamp (show p + j < 2 ^ 31 by omega)]
      refine ⟨pk_in (o + j) 147 (by omega), pk_in (p + j) 147 (by omega), ?_⟩
      rintro _ rfl _ rfl
      rw [nI_1]
      refine ih (j + 1) _ (by omega) (fun k hk => ?_) (fun k hk => ?_) (fun a b h => ?_)
      · rw [st1_get]
        by_cases e : k = j
        · subst e
          rw [if_pos ⟨rfl, rfl⟩]
          exact g2 _ (by omega)
        · rw [if_neg (by omega)]
          exact g1 k (by omega)
      · rw [mm2 (by omega)]
        exact g2 k hk
      · rw [mm1 h]
        exact g3 a b h
  exact key 49 0 σ (by omega) (fun k hk => by omega) (fun _ _ => rfl) (fun _ _ _ => rfl)
theorem m_keep {a : Int32} {σ : Mem} {Q : Int32 → Mem → Prop} (h0 : ¬ wc 0 1 a → Q (-1) σ)
    (h1 : ∀ k, k ≤ 1 → a = nI k → ∀ τ : Mem, (∀ j, j < 49 → τ.1 65 (49 * (k + 1) + j) = σ.1 65 j) → (∀ j, (j < 49 * (k + 1) ∨ 49 * (k + 1) + 49 ≤ j) → τ.1 65 j = σ.1 65 j) → τ.1 67 k = 1 → (∀ y, y ≠ k → τ.1 67 y = σ.1 67 y) → (∀ x y, x ≠ 65 → x ≠ 67 → τ.1 x y = σ.1 x y) → Q (σ.1 67 k) τ)
    (hb : ∀ k, k ≤ 1 → (σ.1 67 k = 0 ∨ σ.1 67 k = 1)) : wp_X6_keep a σ Q := by
  refine m_wi 0 1 rfl rfl (fun h => b00 (h0 h)) (fun h => b10 ?_)
  obtain ⟨k, hk, rfl⟩ := wc_of (n := 1) rfl (by omega) h
  rw [nI_clamp (show k < 2 ^ 31 by omega)]
  refine ⟨pk_in k 2 (by omega), ?_⟩
  have ef : ∀ R : Int32 → Mem → Prop, ∀ υ : Mem, R (σ.1 67 k) υ → wp_X6_flag (σ.1 67 k) υ R := by
    intro R υ hR
    rcases hb k hk with e | e
    · rw [e] at hR ⊢; exact b01 hR
    · rw [e] at hR ⊢; exact b11 hR
  refine ef _ _ ⟨pk_in k 2 (by omega), ?_⟩
  rintro _ rfl
  rw [show vp_nar .boolean (1 : Int32) = 1 from rfl, show (49 : Int32) = nI 49 from rfl, nI_1, pk_mul, show (0 : Int32) = nI 0 from rfl]
  refine m_copies (by omega) (by omega) (by omega) (fun τ t1 t2 t3 => ?_)
  refine h1 k hk rfl τ (fun j hj => ?_) (fun j hj => ?_) ?_ (fun y q => ?_) (fun x y q1 q2 => ?_)
  · rw [t1 j hj, mm1 (by omega), Nat.zero_add]
  · rw [t2 j hj, mm1 (by omega)]
  · rw [t3 _ _ (by omega), mm3]
  · rw [t3 _ _ (by omega), mm2 q]
  · rw [t3 _ _ q1, mm1 q2]
theorem x_back {a : Int32} {σ : Mem} {Q : Int32 → Mem → Prop} (h0 : ¬ wc 0 1 a → Q (-1) σ) (h1 : ∀ k, k ≤ 1 → a = nI k → σ.1 (30 + 11 * k) 2 = 0 → Q (-2) σ)
    (h2 : ∀ k, k ≤ 1 → a = nI k → ¬ σ.1 (30 + 11 * k) 2 = 0 → ∃ A, RX σ (30 + 11 * k + 1) A ∧ SX σ (30 + 11 * k + 8) A ∧ ∀ τ : Mem, RX τ 12 A → SX τ 26 A → (∀ x y, (x < 12 ∨ (19 ≤ x ∧ x < 26) ∨ 29 ≤ x) → τ.1 x y = σ.1 x y) → τ.2 = σ.2 → Q (nI (A 32)) τ) : wp_X5_back a σ Q := by
  refine x_wi (fun h => b00 (h0 h)) (fun h => b10 ?_)
  obtain ⟨k, hk, rfl⟩ := wc_of (n := 1) rfl (by omega) h
  rw [nI_clamp (show k < 2 ^ 31 by omega)]
  refine ⟨pk_in k 2 (by omega), fun z => ?_, fun z => h1 k hk rfl z⟩
  obtain ⟨A, hR, hS, fin⟩ := h2 k hk rfl z
  refine x_copy hR (by omega) (fun τ t1 _ t2 t3 => ?_)
  have hS1 : SX τ (30 + 11 * k + 8) A := hS.fr (fun x y q1 q2 => t2 x y (by omega))
  refine x_scopy hS1 (by omega) (fun υ u1 u2 u3 => ?_)
  have hR2 : RX υ 12 A := t1.frame (fun x y q1 q2 => u2 x y (by omega))
  have e := hR2.2.2.2.2 32 (by omega) (by omega)
  simp only [Nat.reduceSub] at e
  rw [e]
  refine fin υ hR2 u1 (fun x y q => ?_) (by rw [u3, t3])
  rw [u2 x y (by omega), t2 x y (by omega)]
theorem m_back {a : Int32} {σ : Mem} {Q : Int32 → Mem → Prop} (h0 : ¬ wc 0 1 a → Q (-1) σ) (h1 : ∀ k, k ≤ 1 → a = nI k → σ.1 67 k = 0 → Q (-2) σ)
    (h2 : ∀ k, k ≤ 1 → a = nI k → ¬ σ.1 67 k = 0 → ∀ τ : Mem, (∀ j, j < 49 → τ.1 65 j = σ.1 65 (49 * (k + 1) + j)) → (∀ j, 49 ≤ j → τ.1 65 j = σ.1 65 j) → (∀ x y, x ≠ 65 → τ.1 x y = σ.1 x y) → Q (τ.1 65 32) τ) : wp_X6_back a σ Q := by
  refine m_wi 0 1 rfl rfl (fun h => b00 (h0 h)) (fun h => b10 ?_)
  obtain ⟨k, hk, rfl⟩ := wc_of (n := 1) rfl (by omega) h
  rw [nI_clamp (show k < 2 ^ 31 by omega)]
  refine ⟨pk_in k 2 (by omega), fun z => ?_, fun z => h1 k hk rfl z⟩
  rw [show (49 : Int32) = nI 49 from rfl, nI_1, pk_mul, show (0 : Int32) = nI 0 from rfl]
  refine m_copies (by omega) (by omega) (by omega) (fun τ t1 t2 t3 => ?_)
  rw [tc32]
  exact h2 k hk rfl z τ (fun j hj => by have := t1 j hj; rw [Nat.zero_add] at this; exact this) (fun j hj => t2 j (by omega)) t3
/-! sheets: z is one more than the size, 0 for nothing -/
def HX (σ : Mem) (z : Nat → Nat) (ln : Nat → Int32) (ce : Nat → Nat → Int32) : Prop := ∀ k, k < 4 → (∀ i, i < 40 → σ.1 (53 + 2 * k + 1) i = ce k i) ∧ (z k = 0 → σ.1 (53 + 2 * k) 2 = -1) ∧ (¬ z k = 0 → z k ≤ 41 ∧ σ.1 (53 + 2 * k) 2 = nI (z k - 1) ∧ σ.1 (53 + 2 * k) 1 = ln k ∧ wc 0 2 (ln k))
def HM (σ : Mem) (z : Nat → Nat) (ln : Nat → Int32) (ce : Nat → Nat → Int32) : Prop := ∀ k, k < 4 → (∀ i, i < 40 → σ.1 76 (40 * k + i) = ce k i) ∧ (z k = 0 → σ.1 74 k = -4) ∧ (¬ z k = 0 → z k ≤ 41 ∧ σ.1 75 k = nI (z k - 1) ∧ σ.1 74 k = ln k ∧ wc 0 2 (ln k))
def upF {α : Type} (f : Nat → α) (k : Nat) (v : α) : Nat → α := fun j => if j = k then v else f j
theorem up_eq {α : Type} {f : Nat → α} {k : Nat} {v : α} : upF f k v k = v := by unfold upF; rw [if_pos rfl]
theorem up_ne {α : Type} {f : Nat → α} {k j : Nat} {v : α} (h : j ≠ k) : upF f k v j = f j := by unfold upF; rw [if_neg h]
theorem x_isSheet {a : Int32} {σ : Mem} {Q : Int32 → Mem → Prop} (h1 : ¬ wc 0 3 a → Q 0 σ) (h2 : wc 0 3 a → Q 1 σ) : wp_X5_isSheet a σ Q := x_wi (fun h => ⟨Or.inl rfl, h1 h⟩) (fun h => ⟨Or.inr rfl, h2 h⟩)
theorem x_isLane {a : Int32} {σ : Mem} {Q : Int32 → Mem → Prop} (h1 : ¬ wc 0 2 a → Q 0 σ) (h2 : wc 0 2 a → Q 1 σ) : wp_X5_isLane a σ Q := x_wi (fun h => ⟨Or.inl rfl, h1 h⟩) (fun h => ⟨Or.inr rfl, h2 h⟩)
theorem m_isSheet {a b : Int32} {σ : Mem} {Q : Int32 → Mem → Prop} (h1 : ¬ (wc 0 3 a ∧ wc 0 2 b) → Q 0 σ) (h2 : wc 0 3 a → wc 0 2 b → Q 1 σ) : wp_X6_isSheet a b σ Q :=
  m_wi 0 3 rfl rfl (fun h => b01 (h1 (fun q => h q.1))) (fun ha => b11 (m_wi 0 2 rfl rfl (fun h => b01 (h1 (fun q => h q.2))) (fun hb => b11 (h2 ha hb))))
theorem x_sheet {a b c : Int32} {σ : Mem} {z : Nat → Nat} {ln : Nat → Int32} {ce : Nat → Nat → Int32} {Q : Int32 → Mem → Prop} (hH : HX σ z ln ce) (h0 : ¬ (wc 0 3 a ∧ wc 0 2 b ∧ c ≤ 40) → Q (-1) σ) (h1 : wc 0 3 a ∧ wc 0 2 b ∧ c ≤ 40 → ¬ 0 ≤ c → Q (-14) σ)
    (h2 : ∀ k n, k < 4 → n ≤ 40 → a = nI k → c = nI n → wc 0 2 b → ∀ τ : Mem, HX τ (upF z k (n + 1)) (upF ln k b) (upF ce k (fun _ => 0)) → (∀ x y, (x < 53 ∨ 61 ≤ x) → τ.1 x y = σ.1 x y) → τ.2 = σ.2 → Q 1 τ) : wp_X5_sheet a b c σ Q := by
  refine x_isSheet (fun h => b01 (h0 (fun q => h q.1))) (fun ha => b11 ?_)
  refine x_isLane (fun h => b01 (h0 (fun q => h q.2.1))) (fun hb => b11 ?_)
  refine ⟨fun hc => ⟨fun h => ?_, fun h => h1 ⟨ha, hb, hc⟩ h⟩, fun h => h0 (fun q => h q.2.2)⟩
  obtain ⟨k, hk, rfl⟩ := wc_of (n := 3) rfl (by omega) ha
  obtain ⟨n, hn, rfl⟩ := wc_of (n := 40) rfl (by omega) ⟨h, hc⟩
  rw [nI_clamp (show k < 2 ^ 31 by omega)]
  refine ⟨pk_in k 4 (by omega), ?_⟩
  intro P12 h12
  rintro _ rfl _ rfl
  have key : ∀ m j : Nat, ∀ τ : Mem, j + m = 40 → (∀ i, i < j → τ.1 (53 + 2 * k + 1) i = 0) → τ.1 (53 + 2 * k) 1 = b → τ.1 (53 + 2 * k) 2 = nI n → (∀ x y, x ≠ 53 + 2 * k → x ≠ 53 + 2 * k + 1 → τ.1 x y = σ.1 x y) → τ.2 = σ.2 → P12 (nI j) τ := by
    intro m
    induction m with
    | zero =>
      intro j τ hj g1 g2 g3 g4 g5
      apply h12
      refine pk_le 40 j (fun _ => ?_) (fun q => by omega)
      refine h2 k n (by omega) hn rfl rfl hb τ (fun q hq => ?_) (fun x y q => g4 x y (by omega) (by omega)) g5
      by_cases e : q = k
      · subst e
        rw [up_eq, up_eq, up_eq]
        exact ⟨fun i hi => g1 i (by omega), fun q => by omega, fun _ => ⟨by omega, by rw [g3]; rfl, g2, hb⟩⟩
      · rw [up_ne e, up_ne e, up_ne e]
        obtain ⟨q1, q2, q3⟩ := hH q hq
        refine ⟨fun i hi => by rw [g4 _ _ (by omega) (by omega)]; exact q1 i hi, fun y => by rw [g4 _ _ (by omega) (by omega)]; exact q2 y, fun y => ?_⟩
        rw [g4 _ _ (by omega) (by omega), g4 _ _ (by omega) (by omega)]
        exact q3 y
    | succ m ih =>
      intro j τ hj g1 g2 g3 g4 g5
      apply h12
      refine pk_le 40 j (fun q => by omega) (fun _ => ?_)
      refine ⟨pk_in j 40 (by omega), ?_⟩
      rintro _ rfl _ rfl
      rw [nI_clamp (show j < 2 ^ 31 by omega), nI_1]
      refine ih (j + 1) _ (by omega) (fun i hi => ?_) (by rw [mm1 (by omega)]; exact g2) (by rw [mm1 (by omega)]; exact g3) (fun x y q1 q2 => ?_) g5
      · rw [st1_get]
        by_cases e : i = j
        · rw [if_pos ⟨rfl, e⟩]
        · rw [if_neg (by omega)]
          exact g1 i (by omega)
      · rw [mm1 q2]
        exact g4 x y q1 q2
  refine key 40 0 _ (by omega) (fun i hi => by omega) ?_ mm3 (fun x y q1 q2 => ?_) rfl
  · rw [mm2 (by omega), mm3]
  · rw [mm1 q1, mm1 q1]
theorem m_sheet {a b c : Int32} {σ : Mem} {z : Nat → Nat} {ln : Nat → Int32} {ce : Nat → Nat → Int32} {Q : Int32 → Mem → Prop} (hH : HM σ z ln ce) (h0 : ¬ (wc 0 3 a ∧ wc 0 2 b ∧ c ≤ 40) → Q (-1) σ) (h1 : wc 0 3 a ∧ wc 0 2 b ∧ c ≤ 40 → ¬ 0 ≤ c → Q (-14) σ)
    (h2 : ∀ k n, k < 4 → n ≤ 40 → a = nI k → c = nI n → wc 0 2 b → ∀ τ : Mem, HM τ (upF z k (n + 1)) (upF ln k b) (upF ce k (fun _ => 0)) → (∀ x y, x ≠ 74 → x ≠ 75 → x ≠ 76 → τ.1 x y = σ.1 x y) → Q 1 τ) : wp_X6_sheet a b c σ Q := by
  intro P40 h40
  refine m_isSheet (fun h => b01 (h0 (fun q => h ⟨q.1, q.2.1⟩))) (fun ha hb => b11 ?_)
  refine ⟨fun hc => ⟨fun h => ?_, fun h => h1 ⟨ha, hb, hc⟩ h⟩, fun h => h0 (fun q => h q.2.2)⟩
  obtain ⟨k, hk, rfl⟩ := wc_of (n := 3) rfl (by omega) ha
  obtain ⟨n, hn, rfl⟩ := wc_of (n := 40) rfl (by omega) ⟨h, hc⟩
  rw [nI_clamp (show k < 2 ^ 31 by omega)]
  refine ⟨pk_in k 4 (by omega), ?_⟩
  rintro _ rfl
  refine ⟨pk_in k 4 (by omega), ?_⟩
  rintro _ rfl
  have key : ∀ m j : Nat, ∀ τ : Mem, j + m = 40 → (∀ i, i < j → τ.1 76 (40 * k + i) = 0) → (∀ y, (y < 40 * k ∨ 40 * k + 40 ≤ y) → τ.1 76 y = σ.1 76 y) → (∀ x y, x ≠ 76 → τ.1 x y = (st1 (st1 σ 74 k b) 75 k (nI n)).1 x y) → P40 (nI j) τ := by
    intro m
    induction m with
    | zero =>
      intro j τ hj g1 g2 g4
      apply h40
      refine pk_le 40 j (fun _ => ?_) (fun q => by omega)
      refine h2 k n (by omega) hn rfl rfl hb τ (fun q hq => ?_) (fun x y q1 q2 q3 => by rw [g4 x y q3, mm1 q2, mm1 q1])
      by_cases e : q = k
      · subst e
        rw [up_eq, up_eq, up_eq]
        refine ⟨fun i hi => g1 i (by omega), fun q => by omega, fun _ => ⟨by omega, ?_, ?_, hb⟩⟩
        · rw [g4 _ _ (by omega), mm3]; rfl
        · rw [g4 _ _ (by omega), mm1 (by omega), mm3]
      · rw [up_ne e, up_ne e, up_ne e]
        obtain ⟨q1, q2, q3⟩ := hH q hq
        have e75 : τ.1 75 q = σ.1 75 q := by rw [g4 75 q (by omega), mm2 e, mm1 (by omega)]
        have e74 : τ.1 74 q = σ.1 74 q := by rw [g4 74 q (by omega), mm1 (by omega), mm2 e]
        rw [e75, e74]
        refine ⟨fun i hi => ?_, q2, q3⟩
        rw [g2 _ (by omega)]
        exact q1 i hi
    | succ m ih =>
      intro j τ hj g1 g2 g4
      apply h40
      refine pk_le 40 j (fun q => by omega) (fun _ => ?_)
      rw [show (40 : Int32) = nI 40 from rfl, pk_mul, nI_add, nI_clamp (show 40 * k + j < 2 ^ 31 by omega)]
      refine ⟨pk_in (40 * k + j) 160 (by omega), ?_⟩
      rintro _ rfl _ rfl
      rw [nI_1]
      refine ih (j + 1) _ (by omega) (fun i hi => ?_) (fun y q => ?_) (fun x y q1 => ?_)
      · rw [st1_get]
        by_cases e : i = j
        · rw [if_pos ⟨rfl, by omega⟩]
        · rw [if_neg (by omega)]
          exact g1 i (by omega)
      · rw [mm2 (by omega)]
        exact g2 y q
      · rw [mm1 q1]
        exact g4 x y q1
  refine key 40 0 _ (by omega) (fun i hi => by omega) (fun y _ => ?_) (fun _ _ _ => rfl)
  rw [mm1 (by omega), mm1 (by omega)]
noncomputable def nar (l v : Int32) : Int32 := cs (l = 0) v.toInt8.toInt32 (cs (l = 1) v.toInt16.toInt32 v)
theorem x_lay {a b c : Int32} {σ : Mem} {z : Nat → Nat} {ln : Nat → Int32} {ce : Nat → Nat → Int32} {Q : Int32 → Mem → Prop} (hH : HX σ z ln ce) (h0 : ¬ wc 0 3 a → Q (-1) σ) (h1 : ∀ k, k < 4 → a = nI k → z k = 0 → Q (-11) σ) (h2 : ∀ k, k < 4 → a = nI k → ¬ z k = 0 → ¬ wc 0 (nI (z k - 1) - 1) b → Q (-12) σ)
    (h3 : ∀ k i, k < 4 → i < z k - 1 → a = nI k → b = nI i → ¬ z k = 0 → ∀ τ : Mem, HX τ z ln (upF ce k (upF (ce k) i (nar (ln k) c))) → (∀ x y, (x < 53 ∨ 61 ≤ x) → τ.1 x y = σ.1 x y) → τ.2 = σ.2 → Q 1 τ) : wp_X5_lay a b c σ Q := by
  refine x_isSheet (fun h => b00 (h0 h)) (fun ha => b10 ?_)
  obtain ⟨k, hk, rfl⟩ := wc_of (n := 3) rfl (by omega) ha
  rw [nI_clamp (show k < 2 ^ 31 by omega)]
  refine ⟨pk_in k 4 (by omega), ?_⟩
  obtain ⟨q1, q2, q3⟩ := hH k (by omega)
  unfold wp_X2_faultAt
  by_cases hz : z k = 0
  · rw [q2 hz]
    refine ⟨fun y => absurd y (by decide), fun _ => ⟨fun y => absurd y (by decide), fun _ => ?_⟩⟩
    exact h1 k (by omega) rfl hz
  · obtain ⟨p1, p2, p3, p4⟩ := q3 hz
    rw [p2]
    refine ⟨fun _ => ⟨fun _ => ?_, fun y => absurd rfl y⟩, fun y => absurd (nI_pos' (by omega)) y⟩
    refine x_wi (fun h => b01 ⟨fun y => absurd y (by decide), fun _ => ?_⟩) (fun h => b11 ⟨fun _ => ?_, fun y => absurd rfl y⟩)
    · exact h2 k (by omega) rfl hz h
    · have h' : ∃ i, i < z k - 1 ∧ b = nI i := (in_split b (z k - 1) (by omega)).elim id (fun q => absurd h q)
      obtain ⟨i, hi, rfl⟩ := h'
      have fin : ∀ r, r = nar (ln k) c → vp_in (nI i) 40 ∧ ∀ σ10 : Mem, σ10 = st1 σ (53 + 2 * k + 1) (nI i).toNatClampNeg r → Q 1 σ10 := by
        rintro _ rfl
        refine ⟨pk_in i 40 (by omega), ?_⟩
        rintro _ rfl
        rw [nI_clamp (show i < 2 ^ 31 by omega)]
        refine h3 k i (by omega) hi rfl rfl hz _ (fun q hq => ?_) (fun x y q => mm1 (by omega)) rfl
        by_cases e : q = k
        · subst e
          rw [up_eq]
          refine ⟨fun j hj => ?_, fun y => absurd y hz, fun _ => ?_⟩
          · by_cases e2 : j = i
            · subst e2
              rw [mm3, up_eq]
            · rw [mm2 e2, up_ne e2]
              exact q1 j hj
          · rw [mm1 (by omega), mm1 (by omega)]
            exact q3 hz
        · rw [up_ne e]
          obtain ⟨r1, r2, r3⟩ := hH q hq
          refine ⟨fun j hj => by rw [mm1 (by omega)]; exact r1 j hj, fun y => by rw [mm1 (by omega)]; exact r2 y, fun y => ?_⟩
          rw [mm1 (by omega), mm1 (by omega)]
          exact r3 y
      unfold wp_X2_narrowed
      rw [p3]
      refine ⟨fun e => fin _ ?_, fun e => fin _ ?_, fun e1 e2 => fin _ ?_⟩
      · exact (cs_t e).symm
      · unfold nar
        rw [e, cs_f (by decide), cs_t rfl]
      · unfold nar
        rw [cs_f e1, cs_f e2]
theorem m_lay {a b c : Int32} {σ : Mem} {z : Nat → Nat} {ln : Nat → Int32} {ce : Nat → Nat → Int32} {Q : Int32 → Mem → Prop} (hH : HM σ z ln ce) (h0 : ¬ wc 0 3 a → Q (-1) σ) (h1 : ∀ k, k < 4 → a = nI k → z k = 0 → Q (-11) σ) (h2 : ∀ k, k < 4 → a = nI k → ¬ z k = 0 → ¬ wc 0 (nI (z k - 1) - 1) b → Q (-12) σ)
    (h3 : ∀ k i, k < 4 → i < z k - 1 → a = nI k → b = nI i → ¬ z k = 0 → ∀ τ : Mem, HM τ z ln (upF ce k (upF (ce k) i (nar (ln k) c))) → (∀ x y, x ≠ 76 → τ.1 x y = σ.1 x y) → Q 1 τ) : wp_X6_lay a b c σ Q := by
  intro P85 h85
  refine m_isSheet (fun h => b00 (h0 (fun q => h ⟨q, by decide, by decide⟩))) (fun ha _ => b10 ?_)
  obtain ⟨k, hk, rfl⟩ := wc_of (n := 3) rfl (by omega) ha
  rw [nI_clamp (show k < 2 ^ 31 by omega)]
  refine ⟨pk_in k 4 (by omega), ?_⟩
  obtain ⟨q1, q2, q3⟩ := hH k (by omega)
  by_cases hz : z k = 0
  · exact ⟨fun y => absurd (q2 hz) y, fun _ => h1 k (by omega) rfl hz⟩
  · obtain ⟨p1, p2, p3, p4⟩ := q3 hz
    rw [p2, p3]
    refine ⟨fun _ => ⟨pk_in k 4 (by omega), ?_⟩, fun y => absurd p4.1 (by rw [y]; decide)⟩
    refine m_wi 0 (nI (z k - 1) - 1) rfl rfl (fun h => b00 (h2 k (by omega) rfl hz h)) (fun h => b10 ⟨pk_in k 4 (by omega), ?_⟩)
    have h' : ∃ i, i < z k - 1 ∧ b = nI i := (in_split b (z k - 1) (by omega)).elim id (fun q => absurd h q)
    obtain ⟨i, hi, rfl⟩ := h'
    rw [show (40 : Int32) = nI 40 from rfl, pk_mul, nI_add]
    have fin : ∀ r, r = nar (ln k) c → P85 r (nI (40 * k + i)) σ := by
      rintro _ rfl
      refine h85 _ _ _ ⟨pk_in (40 * k + i) 160 (by omega), ?_⟩
      rintro _ rfl
      rw [nI_clamp (show 40 * k + i < 2 ^ 31 by omega)]
      refine h3 k i (by omega) hi rfl rfl hz _ (fun q hq => ?_) (fun x y q => mm1 q)
      by_cases e : q = k
      · subst e
        rw [up_eq]
        refine ⟨fun j hj => ?_, fun y => absurd y hz, fun _ => ?_⟩
        · by_cases e2 : j = i
          · subst e2
            rw [mm3, up_eq]
          · rw [mm2 (by omega), up_ne e2]
            exact q1 j hj
        · rw [mm1 (by omega), mm1 (by omega)]
          exact q3 hz
      · rw [up_ne e]
        obtain ⟨r1, r2, r3⟩ := hH q hq
        refine ⟨fun j hj => by rw [mm2 (by omega)]; exact r1 j hj, fun y => by rw [mm1 (by omega)]; exact r2 y, fun y => ?_⟩
        rw [mm1 (by omega), mm1 (by omega)]
        exact r3 y
    refine ⟨fun e1 => ⟨pk_in k 4 (by omega), fun e2 => fin _ ?_, fun e2 => fin _ ?_⟩, fun e => fin _ ?_⟩
    · rw [p3] at e1 e2
      unfold nar
      rw [cs_f e1, cs_f e2]
    · rw [p3] at e1 e2
      unfold nar
      rw [cs_f e1, cs_t e2]
    · rw [p3] at e
      exact (cs_t e).symm
/-! counts -/
noncomputable def sumA (A : Nat → Nat) (w : Nat) : Nat → Int32
  | 0 => 0
  | n + 1 => sumA A w n + nI (A (4 * n + w))
theorem x_sum {d w : Nat} {σ : Mem} {A : Nat → Nat} {Q : Int32 → Mem → Prop} (hR : RX σ d A) (hw : w < 4) (hQ : Q (sumA A w (A 24)) σ) : wp_X0_sumOf d (nI w) σ Q := by
  have w6 := hR.1.1
  intro P4 hP
  have key : ∀ m j : Nat, j + m = A 24 → P4 (sumA A w j) (nI j) σ := by
    intro m
    induction m with
    | zero =>
      intro j hj
      apply hP
      rw [hR.2.1]
      refine pk_le (A 24) j (fun _ => ?_) (fun q => by omega)
      rw [show j = A 24 by omega]
      exact hQ
    | succ m ih =>
      intro j hj
      apply hP
      rw [hR.2.1]
      refine pk_le (A 24) j (fun q => by omega) (fun _ => ?_)
      refine ⟨pk_in w 4 hw, pk_in j 6 (by omega), ?_⟩
      rintro _ rfl _ rfl
      rw [nI_clamp (show w < 2 ^ 31 by omega), nI_clamp (show j < 2 ^ 31 by omega), Nat.one_mul, hR.2.2.1 j w (by omega) hw, nI_1]
      exact ih (j + 1) (by omega)
  exact key (A 24) 0 (by omega)
theorem m_sum {w : Nat} {σ : Mem} {A : Nat → Nat} {Q : Int32 → Mem → Prop} (hR : Rl (σ.1 66) A) (hw : w < 4) (hQ : Q (sumA A w (A 24)) σ) : wp_X6_allOf (nI w) σ Q := by
  have w6 := hR.1.1
  intro P4 hP
  simp only [tc24] at hP
  have key : ∀ m j : Nat, j + m = A 24 → P4 (sumA A w j) (nI j) σ := by
    intro m
    induction m with
    | zero =>
      intro j hj
      apply hP
      rw [hR.2.1]
      refine pk_le (A 24) j (fun _ => ?_) (fun q => by omega)
      rw [show j = A 24 by omega]
      exact hQ
    | succ m ih =>
      intro j hj
      apply hP
      rw [hR.2.1]
      refine pk_le (A 24) j (fun q => by omega) (fun _ => ?_)
      refine m_of (by omega) ?_
      rintro _ rfl _ rfl
      rw [hR.2.2.1 j w (by omega) hw, nI_1]
      exact ih (j + 1) (by omega)
  exact key (A 24) 0 (by omega)
noncomputable def aCount (A : Nat → Nat) (k0 k1 : Int32) (T : Nat) (z : Nat → Nat) (a : Int32) : Int32 := cs (a = 0) (nI (A 36)) (cs (a = 1) (k0 + k1) (cs (a = 2) (nI T) (cs (a = 3) (cs (z 0 = 0) (-4) (nI (z 0 - 1))) (cs (a = 4) (sumA A 1 (A 24)) (cs (a = 5) (sumA A 3 (A 24)) (-1))))))
theorem x_cnt {a k0 k1 : Int32} {σ : Mem} {A : Nat → Nat} {T : Nat} {t : Nat → Nat} {z : Nat → Nat} {ln : Nat → Int32} {ce : Nat → Nat → Int32} {Q : Int32 → Mem → Prop} (hR : RX σ 12 A) (hS : SX σ 26 A) (hT : TX σ T t) (hH : HX σ z ln ce) (d0 : σ.1 30 2 = k0) (c0 : k0 = 0 ∨ k0 = 1) (d1 : σ.1 41 2 = k1) (c1 : k1 = 0 ∨ k1 = 1) (hQ : Q (aCount A k0 k1 T z a) σ) : wp_X5_count a σ Q := by
  intro P65 h65
  simp only [tc0, tc1, Nat.mul_zero, Nat.add_zero, Nat.mul_one, Nat.reduceAdd] at h65 ⊢
  unfold aCount at hQ
  obtain ⟨q1, q2, q3⟩ := hH 0 (by omega)
  simp only [Nat.mul_zero, Nat.add_zero] at q2 q3
  rw [hS.2.1, hT.2.1, d0]
  refine ⟨fun h => ?_, fun h => ?_, fun h => ?_, fun h => ?_, fun h => ?_, fun h => ?_, fun h0 h1 h2 h3 h4 h5 => ?_⟩
  · rw [cs_t h] at hQ; exact hQ
  · subst h; rw [cs_f (by decide), cs_t rfl] at hQ
    have fin : P65 k0 σ := by
      apply h65
      rw [d1]
      rcases c1 with rfl | rfl
      · exact b01 hQ
      · exact b11 hQ
    rcases c0 with rfl | rfl
    · exact b01 fin
    · exact b11 fin
  · subst h; rw [cs_f (by decide), cs_f (by decide), cs_t rfl] at hQ; exact hQ
  · subst h; rw [cs_f (by decide), cs_f (by decide), cs_f (by decide), cs_t rfl] at hQ
    by_cases hz : z 0 = 0
    · rw [cs_t hz] at hQ
      rw [q2 hz]
      exact ⟨fun y => absurd y (by decide), fun _ => hQ⟩
    · rw [cs_f hz] at hQ
      obtain ⟨p1, p2, -⟩ := q3 hz
      rw [p2]
      exact ⟨fun _ => hQ, fun y => absurd (nI_pos' (by omega)) y⟩
  · subst h; rw [cs_f (by decide), cs_f (by decide), cs_f (by decide), cs_f (by decide), cs_t rfl] at hQ
    exact x_sum (w := 1) hR (by omega) hQ
  · subst h; rw [cs_f (by decide), cs_f (by decide), cs_f (by decide), cs_f (by decide), cs_f (by decide), cs_t rfl] at hQ
    exact x_sum (w := 3) hR (by omega) hQ
  · rw [cs_f h0, cs_f h1, cs_f h2, cs_f h3, cs_f h4, cs_f h5] at hQ; exact hQ
theorem m_cnt {a k0 k1 : Int32} {σ : Mem} {A : Nat → Nat} {T : Nat} {t : Nat → Nat} {z : Nat → Nat} {ln : Nat → Int32} {ce : Nat → Nat → Int32} {Q : Int32 → Mem → Prop} (hR : Rl (σ.1 65) A) (hS : SL (σ.1 65) A) (hT : TM σ T t) (hH : HM σ z ln ce) (b0 : σ.1 67 0 = k0) (c0 : k0 = 0 ∨ k0 = 1) (b1 : σ.1 67 1 = k1) (c1 : k1 = 0 ∨ k1 = 1) (hQ : ∀ τ : Mem, KM σ τ → Q (aCount A k0 k1 T z a) τ) : wp_X6_count a σ Q := by
  refine m_try hR (fun τ t1 _ t2 => ?_)
  have hQ := hQ τ t2
  unfold aCount at hQ
  obtain ⟨q1, q2, q3⟩ := hH 0 (by omega)
  have f : ∀ x y, x ≠ 66 → x ≠ 71 → x ≠ 72 → x ≠ 73 → x ≠ 77 → x ≠ 64 → τ.1 x y = σ.1 x y := fun x y p1 p2 p3 p4 p5 p6 => t2 x y p1 p2 p3 p4 p5 (fun q => p6 q.1)
  rw [tc36, tc0, tc1, f 65 36 (by omega) (by omega) (by omega) (by omega) (by omega) (by omega), hS.2.1, t2 64 10 (by omega) (by omega) (by omega) (by omega) (by omega) (by omega), hT.2.1, f 67 0 (by omega) (by omega) (by omega) (by omega) (by omega) (by omega), b0, f 74 0 (by omega) (by omega) (by omega) (by omega) (by omega) (by omega), f 75 0 (by omega) (by omega) (by omega) (by omega) (by omega) (by omega)]
  refine ⟨fun h => ?_, fun h => ?_, fun h => ?_, fun h => ?_, fun h => ?_, fun h => ?_, fun h0 h1 h2 h3 h4 h5 => ?_⟩
  · rw [cs_t h] at hQ; exact hQ
  · subst h; rw [cs_f (by decide), cs_t rfl] at hQ
    have fin : wp_X6_flag k1 τ (fun r7 σ6 => Q (k0 + r7) σ6) := by
      rcases c1 with rfl | rfl
      · exact m_flag0 hQ
      · exact m_flag1 hQ
    have e1 : τ.1 67 1 = k1 := by rw [f 67 1 (by omega) (by omega) (by omega) (by omega) (by omega) (by omega)]; exact b1
    rcases c0 with rfl | rfl
    · refine m_flag0 ?_
      rw [e1]
      exact fin
    · refine m_flag1 ?_
      rw [e1]
      exact fin
  · subst h; rw [cs_f (by decide), cs_f (by decide), cs_t rfl] at hQ; exact hQ
  · subst h; rw [cs_f (by decide), cs_f (by decide), cs_f (by decide), cs_t rfl] at hQ
    by_cases hz : z 0 = 0
    · rw [cs_t hz] at hQ
      exact ⟨fun y => absurd (q2 hz) y, fun _ => hQ⟩
    · rw [cs_f hz] at hQ
      obtain ⟨p1, p2, p3, p4⟩ := q3 hz
      rw [p2, p3]
      exact ⟨fun _ => hQ, fun y => absurd p4.1 (by rw [y]; decide)⟩
  · subst h; rw [cs_f (by decide), cs_f (by decide), cs_f (by decide), cs_f (by decide), cs_t rfl] at hQ
    exact m_sum (w := 1) t1 (by omega) hQ
  · subst h; rw [cs_f (by decide), cs_f (by decide), cs_f (by decide), cs_f (by decide), cs_f (by decide), cs_t rfl] at hQ
    exact m_sum (w := 3) t1 (by omega) hQ
  · rw [cs_f h0, cs_f h1, cs_f h2, cs_f h3, cs_f h4, cs_f h5] at hQ; exact hQ
