/-! tokens -/
def go (c : Nat → Bool) (t : Nat → Nat) : Nat → Nat → Nat
  | 0, p => p
  | m + 1, p => if c (t p) = true then go c t m (p + 1) else p
def rT (c : Nat → Bool) (t : Nat → Nat) (T p : Nat) : Nat := go c t (T - p) p
theorem rT_step {c : Nat → Bool} {t : Nat → Nat} {T p : Nat} (h : p < T) (hc : c (t p) = true) : rT c t T p = rT c t T (p + 1) := by
  unfold rT
  rw [show T - p = T - (p + 1) + 1 by omega]
  show (if c (t p) = true then _ else _) = _
  rw [if_pos hc]
theorem rT_stop {c : Nat → Bool} {t : Nat → Nat} {T p : Nat} (h : p < T) (hc : ¬ c (t p) = true) : rT c t T p = p := by
  unfold rT
  rw [show T - p = T - (p + 1) + 1 by omega]
  show (if c (t p) = true then _ else _) = _
  rw [if_neg hc]
theorem rT_end {c : Nat → Bool} {t : Nat → Nat} {T p : Nat} (h : T ≤ p) : rT c t T p = p := by
  unfold rT
  rw [show T - p = 0 by omega]
  rfl
theorem rT_bd {c : Nat → Bool} {t : Nat → Nat} {T : Nat} : ∀ m p : Nat, p + m = T → p ≤ rT c t T p ∧ rT c t T p ≤ T ∧ (rT c t T p < T → ¬ c (t (rT c t T p)) = true) := by
  intro m
  induction m with
  | zero =>
    intro p hp
    rw [rT_end (by omega)]
    exact ⟨Nat.le_refl p, by omega, fun q => by omega⟩
  | succ m ih =>
    intro p hp
    by_cases h : c (t p) = true
    · rw [rT_step (by omega) h]
      have := ih (p + 1) (by omega)
      exact ⟨by omega, this.2.1, this.2.2⟩
    · rw [rT_stop (by omega) h]
      exact ⟨Nat.le_refl p, by omega, fun _ => h⟩
theorem rT_b {c : Nat → Bool} {t : Nat → Nat} {T p : Nat} (h : p ≤ T) : p ≤ rT c t T p ∧ rT c t T p ≤ T ∧ (rT c t T p < T → ¬ c (t (rT c t T p)) = true) := rT_bd (T - p) p (by omega)
def isSp (x : Nat) : Bool := x == 32
def isLe (x : Nat) : Bool := decide (97 ≤ x ∧ x ≤ 122)
def isFi (x : Nat) : Bool := decide (48 ≤ x ∧ x ≤ 57)
theorem sp_iff {x : Nat} : isSp x = true ↔ x = 32 := by simp [isSp]
theorem le_iff {x : Nat} : isLe x = true ↔ 97 ≤ x ∧ x ≤ 122 := by simp [isLe]
theorem fi_iff {x : Nat} : isFi x = true ↔ 48 ≤ x ∧ x ≤ 57 := by simp [isFi]
def vN (t : Nat → Nat) (s : Nat) : Nat → Nat
  | 0 => 0
  | j + 1 => vN t s j * 10 + (t (s + j) - 48)
abbrev Tok : Type := Nat × Nat × Nat × Nat
abbrev Tok.k (x : Tok) : Nat := x.1
abbrev Tok.s (x : Tok) : Nat := x.2.1
abbrev Tok.n (x : Tok) : Nat := x.2.2.1
abbrev Tok.v (x : Tok) : Nat := x.2.2.2
def tkE (t : Nat → Nat) (T p : Nat) : Except (Nat × Nat) Tok :=
  if rT isSp t T p < T then
    if t (rT isSp t T p) = 59 then .ok ⟨3, rT isSp t T p, rT isSp t T p + 1, 0⟩
    else if isLe (t (rT isSp t T p)) = true then .ok ⟨1, rT isSp t T p, rT isLe t T (rT isSp t T p), 0⟩
    else if isFi (t (rT isSp t T p)) = true then
      (if rT isFi t T (rT isSp t T p) - rT isSp t T p ≤ 2 then .ok ⟨2, rT isSp t T p, rT isFi t T (rT isSp t T p), vN t (rT isSp t T p) (rT isFi t T (rT isSp t T p) - rT isSp t T p)⟩ else .error (1, rT isSp t T p))
    else .error (1, rT isSp t T p)
  else .ok ⟨0, rT isSp t T p, rT isSp t T p, 0⟩
/-- what is known of a token -/
theorem tk_ok {t : Nat → Nat} {T p : Nat} {k : Tok} (hp : p ≤ T) (h : tkE t T p = .ok k) : p ≤ k.s ∧ k.s ≤ k.n ∧ k.n ≤ T ∧ k.k ≤ 3 ∧ (k.k ≠ 0 → k.s < k.n) ∧ (k.k = 0 → k.s = T) ∧ (k.k = 2 → k.v ≤ 99) := by
  obtain ⟨b1, b2, b3⟩ := rT_b (c := isSp) (t := t) hp
  unfold tkE at h
  generalize rT isSp t T p = s at b1 b2 b3 h
  by_cases h1 : s < T
  · rw [if_pos h1] at h
    by_cases h2 : t s = 59
    · rw [if_pos h2] at h
      cases h
      exact ⟨b1, by simp [Tok.k, Tok.s, Tok.n], h1, by simp [Tok.k, Tok.s, Tok.n], by simp [Tok.k, Tok.s, Tok.n], by simp [Tok.k, Tok.s, Tok.n], by simp [Tok.k]⟩
    · rw [if_neg h2] at h
      by_cases h3 : isLe (t s) = true
      · rw [if_pos h3] at h
        cases h
        obtain ⟨c1, c2, -⟩ := rT_b (c := isLe) (t := t) (T := T) (p := s) b2
        have c3 : s + 1 ≤ rT isLe t T s := by
          rw [rT_step h1 h3]
          exact (rT_b (c := isLe) (t := t) (T := T) (p := s + 1) h1).1
        exact ⟨b1, c1, c2, by simp [Tok.k, Tok.s, Tok.n], fun _ => c3, by simp [Tok.k, Tok.s, Tok.n], by simp [Tok.k]⟩
      · rw [if_neg h3] at h
        by_cases h4 : isFi (t s) = true
        · rw [if_pos h4] at h
          by_cases h5 : rT isFi t T s - s ≤ 2
          · rw [if_pos h5] at h
            cases h
            obtain ⟨c1, c2, -⟩ := rT_b (c := isFi) (t := t) (T := T) (p := s) b2
            have c3 : s + 1 ≤ rT isFi t T s := by
              rw [rT_step h1 h4]
              exact (rT_b (c := isFi) (t := t) (T := T) (p := s + 1) h1).1
            refine ⟨b1, c1, c2, by simp [Tok.k, Tok.s, Tok.n], fun _ => c3, by simp [Tok.k, Tok.s, Tok.n], fun _ => ?_⟩
            have f0 := fi_iff.mp h4
            show vN t s (rT isFi t T s - s) ≤ 99
            rcases (show rT isFi t T s - s = 1 ∨ rT isFi t T s - s = 2 by omega) with e | e
            · rw [e]
              show 0 * 10 + (t (s + 0) - 48) ≤ 99
              simp only [Nat.add_zero]
              omega
            · rw [e]
              have hs1 : s + 1 < T := by omega
              have f1 : isFi (t (s + 1)) = true := by
                by_cases q : isFi (t (s + 1)) = true
                · exact q
                · rw [rT_step h1 h4, rT_stop hs1 q] at e
                  omega
              have f1 := fi_iff.mp f1
              show (0 * 10 + (t (s + 0) - 48)) * 10 + (t (s + 1) - 48) ≤ 99
              simp only [Nat.add_zero]
              omega
          · rw [if_neg h5] at h
            cases h
        · rw [if_neg h4] at h
          cases h
  · rw [if_neg h1] at h
    cases h
    exact ⟨b1, by simp [Tok.k, Tok.s, Tok.n], b2, by simp [Tok.k, Tok.s, Tok.n], by simp [Tok.k, Tok.s, Tok.n], fun _ => by show s = T; omega, by simp [Tok.k]⟩
theorem tk_er {t : Nat → Nat} {T p : Nat} {e : Nat × Nat} (hp : p ≤ T) (h : tkE t T p = .error e) : e.1 = 1 ∧ e.2 ≤ T := by
  obtain ⟨b1, b2, b3⟩ := rT_b (c := isSp) (t := t) hp
  unfold tkE at h
  generalize rT isSp t T p = s at b1 b2 b3 h
  by_cases h1 : s < T
  · rw [if_pos h1] at h
    by_cases h2 : t s = 59
    · rw [if_pos h2] at h
      cases h
    · rw [if_neg h2] at h
      by_cases h3 : isLe (t s) = true
      · rw [if_pos h3] at h
        cases h
      · rw [if_neg h3] at h
        by_cases h4 : isFi (t s) = true
        · rw [if_pos h4] at h
          by_cases h5 : rT isFi t T s - s ≤ 2
          · rw [if_pos h5] at h
            cases h
          · rw [if_neg h5] at h
            cases h
            exact ⟨rfl, b2⟩
        · rw [if_neg h4] at h
          cases h
          exact ⟨rfl, b2⟩
  · rw [if_neg h1] at h
    cases h
theorem x_letter {c : Nat} {σ : Mem} {Q : Int32 → Mem → Prop} (hc : c ≤ 127) (h0 : ¬ isLe c = true → Q 0 σ) (h1 : isLe c = true → Q 1 σ) : wp_X4_isLetter (nI c) σ Q := by
  rw [le_iff] at h0 h1
  exact pk_lt c 97 (fun q => h0 (by omega)) (fun q => pk_lt 122 c (fun q2 => h0 (by omega)) (fun q2 => h1 (by omega)))
theorem x_figure {c : Nat} {σ : Mem} {Q : Int32 → Mem → Prop} (hc : c ≤ 127) (h0 : ¬ isFi c = true → Q 0 σ) (h1 : isFi c = true → Q 1 σ) : wp_X4_isFigure (nI c) σ Q := by
  rw [fi_iff] at h0 h1
  exact pk_lt c 48 (fun q => h0 (by omega)) (fun q => pk_lt 57 c (fun q2 => h0 (by omega)) (fun q2 => h1 (by omega)))
/-- the class takes a number that begins at s -/
theorem x_takeNum {σ : Mem} {T s : Nat} {t : Nat → Nat} {Q : Int32 → Mem → Prop} (hT : TX σ T t) (hs : s < T) (h8 : σ.1 1 8 = nI s) (h7 : σ.1 1 7 = nI s)
    (h0 : ¬ rT isFi t T s - s ≤ 2 → ∀ τ : Mem, τ.1 1 4 = 1 → τ.1 1 5 = nI s → (∀ a b, ¬ (a = 1 ∧ 4 ≤ b ∧ b ≤ 9) → τ.1 a b = σ.1 a b) → τ.2 = σ.2 → Q 0 τ)
    (h1 : rT isFi t T s - s ≤ 2 → ∀ τ : Mem, τ.1 1 6 = 2 → τ.1 1 7 = nI s → τ.1 1 8 = nI (rT isFi t T s) → τ.1 1 9 = nI (vN t s (rT isFi t T s - s)) → (∀ a b, ¬ (a = 1 ∧ 6 ≤ b ∧ b ≤ 9) → τ.1 a b = σ.1 a b) → τ.2 = σ.2 → Q 1 τ) : wp_X4_takeNumber σ Q := by
  obtain ⟨T6, e1, e2⟩ := hT
  intro P10 h10
  have key : ∀ (m q : Nat) (τ : Mem), q + m = T → s ≤ q → q - s ≤ 2 → rT isFi t T s = rT isFi t T q → τ.1 1 8 = nI q → τ.1 1 7 = nI s → τ.1 1 6 = 2 → τ.1 1 9 = nI (vN t s (q - s)) → (∀ a b, ¬ (a = 1 ∧ 6 ≤ b ∧ b ≤ 9) → τ.1 a b = σ.1 a b) → τ.2 = σ.2 → P10 τ := by
    intro m
    induction m with
    | zero =>
      intro q τ hq hsq hq2 hr g8 g7 g6 g9 gf g2
      apply h10
      rw [g8, gf 1 1 (by omega), e1]
      refine pk_le T q (fun _ => ?_) (fun z => by omega)
      rw [rT_end (p := q) (by omega)] at hr
      rw [hr] at h1
      exact h1 hq2 τ g6 g7 g8 g9 gf g2
    | succ m ih =>
      intro q τ hq hsq hq2 hr g8 g7 g6 g9 gf g2
      apply h10
      rw [g8, gf 1 1 (by omega), e1, nI_clamp (show q < 2 ^ 31 by omega), gf 2 q (by omega), (e2 q (by omega)).2]
      have hc := (e2 q (by omega)).1
      refine pk_le T q (fun z => by omega) (fun _ => ⟨pk_in q 160 (by omega), ?_⟩)
      refine x_figure hc (fun z => b01 ?_) (fun z => b11 ?_)
      · rw [rT_stop (by omega) z] at hr
        rw [hr] at h1
        exact h1 hq2 τ g6 g7 g8 g9 gf g2
      · have hr2 := hr
        rw [rT_step (by omega) z] at hr2
        rw [g8, g7, pk_sub hsq]
        refine pk_lt (q - s) 2 (fun y => ⟨pk_in q 160 (by omega), ?_⟩) (fun y => ?_)
        · rintro _ rfl
          rw [nI_clamp (show q < 2 ^ 31 by omega), gf 2 q (by omega), (e2 q (by omega)).2, mm2 (by omega), g8, nI_1]
          rintro _ rfl
          have f := fi_iff.mp z
          refine ih (q + 1) _ (by omega) (by omega) (by omega) hr2 mm3 ?_ ?_ ?_ (fun a b h => ?_) g2
          · rw [mm2 (by omega), mm2 (by omega)]; exact g7
          · rw [mm2 (by omega), mm2 (by omega)]; exact g6
          · rw [mm2 (by omega), mm3, g9, show (10 : Int32) = nI 10 from rfl, show (48 : Int32) = nI 48 from rfl, pk_mul, pk_sub (by omega), nI_add, show q + 1 - s = q - s + 1 by omega]
            show nI (vN t s (q - s) * 10 + (t q - 48)) = nI (vN t s (q - s) * 10 + (t (s + (q - s)) - 48))
            rw [show s + (q - s) = q by omega]
          · rw [st1_get, if_neg (by omega), st1_get, if_neg (by omega)]
            exact gf a b h
        · rintro _ rfl _ rfl
          refine ⟨Or.inl rfl, h0 ?_ _ ?_ mm3 (fun a b h => ?_) g2⟩
          · rw [hr2]
            have := (rT_b (c := isFi) (t := t) (T := T) (p := q + 1) (by omega)).1
            omega
          · rw [mm2 (by omega), mm3]
          · rw [st1_get, if_neg (by omega), st1_get, if_neg (by omega)]
            exact gf a b (by omega)
  rintro _ rfl _ rfl
  refine key (T - s) s _ (by omega) (by omega) (by omega) rfl ?_ ?_ ?_ ?_ (fun a b h => ?_) rfl
  · rw [mm2 (by omega), mm2 (by omega)]; exact h8
  · rw [mm2 (by omega), mm2 (by omega)]; exact h7
  · rw [mm2 (by omega), mm3]
  · rw [mm3, Nat.sub_self]; rfl
  · rw [st1_get, if_neg (by omega), st1_get, if_neg (by omega)]
theorem x_take {σ : Mem} {T p : Nat} {t : Nat → Nat} {Q : Int32 → Mem → Prop} (hT : TX σ T t) (hp : σ.1 1 8 = nI p) (hpT : p ≤ T)
    (h0 : ∀ s, tkE t T p = .error (1, s) → ∀ τ : Mem, τ.1 1 4 = 1 → τ.1 1 5 = nI s → (∀ a b, ¬ (a = 1 ∧ 4 ≤ b ∧ b ≤ 9) → τ.1 a b = σ.1 a b) → τ.2 = σ.2 → Q 0 τ)
    (h1 : ∀ k : Tok, tkE t T p = .ok k → ∀ τ : Mem, τ.1 1 6 = nI k.k → τ.1 1 7 = nI k.s → τ.1 1 8 = nI k.n → (k.k = 2 → τ.1 1 9 = nI k.v) → (∀ a b, ¬ (a = 1 ∧ 6 ≤ b ∧ b ≤ 9) → τ.1 a b = σ.1 a b) → τ.2 = σ.2 → Q 1 τ) : wp_X4_take σ Q := by
  obtain ⟨T6, e1, e2⟩ := hT
  intro P0 P38 P109 hP0 h38 h109
  have word : ∀ (s : Nat) (k : Tok), tkE t T p = .ok k → k.k = 1 → k.s = s → k.n = rT isLe t T s → ∀ (m q : Nat) (τ : Mem), q + m = T → rT isLe t T s = rT isLe t T q → τ.1 1 8 = nI q → τ.1 1 7 = nI s → τ.1 1 6 = 1 → (∀ a b, ¬ (a = 1 ∧ 6 ≤ b ∧ b ≤ 9) → τ.1 a b = σ.1 a b) → τ.2 = σ.2 → P109 τ := by
    intro s k hk k1 k2 k3 m
    induction m with
    | zero =>
      intro q τ hq hr g8 g7 g6 gf g2
      apply h109
      rw [g8, gf 1 1 (by omega), e1]
      refine pk_le T q (fun _ => ?_) (fun z => by omega)
      rw [rT_end (p := q) (by omega)] at hr
      exact h1 k hk τ (by rw [k1]; exact g6) (by rw [k2]; exact g7) (by rw [k3, hr]; exact g8) (fun z => by omega) gf g2
    | succ m ih =>
      intro q τ hq hr g8 g7 g6 gf g2
      apply h109
      rw [g8, gf 1 1 (by omega), e1, nI_clamp (show q < 2 ^ 31 by omega), gf 2 q (by omega), (e2 q (by omega)).2]
      refine pk_le T q (fun z => by omega) (fun _ => ⟨pk_in q 160 (by omega), ?_⟩)
      refine x_letter (e2 q (by omega)).1 (fun z => b01 ?_) (fun z => b11 ?_)
      · rw [rT_stop (by omega) z] at hr
        exact h1 k hk τ (by rw [k1]; exact g6) (by rw [k2]; exact g7) (by rw [k3, hr]; exact g8) (fun z => by omega) gf g2
      · rw [rT_step (by omega) z] at hr
        rw [g8, nI_1]
        rintro _ rfl
        refine ih (q + 1) _ (by omega) hr mm3 ?_ ?_ (fun a b h => ?_) g2
        · rw [mm2 (by omega)]; exact g7
        · rw [mm2 (by omega)]; exact g6
        · rw [st1_get, if_neg (by omega)]
          exact gf a b h
  have at38 : ∀ (s : Nat) (τ : Mem), rT isSp t T p = s → s ≤ T → τ.1 1 8 = nI s → (∀ a b, ¬ (a = 1 ∧ b = 8) → τ.1 a b = σ.1 a b) → τ.2 = σ.2 → P38 τ := by
    intro s τ hs hsT g8 gf g2
    apply h38
    rintro _ rfl
    unfold tkE at h0 h1 word
    rw [hs] at h0 h1 word
    have gf1 : ∀ a b, ¬ (a = 1 ∧ 6 ≤ b ∧ b ≤ 9) → (st1 τ 1 7 (τ.1 1 8)).1 a b = σ.1 a b := fun a b h => by
      rw [st1_get, if_neg (by omega)]
      exact gf a b (by omega)
    have G8 : (st1 τ 1 7 (τ.1 1 8)).1 1 8 = nI s := by rw [mm2 (by omega)]; exact g8
    have G7 : (st1 τ 1 7 (τ.1 1 8)).1 1 7 = nI s := by rw [mm3]; exact g8
    rw [G8, gf1 1 1 (by omega), e1]
    refine pk_lt s T (fun h => ⟨pk_in s 160 (by omega), ?_⟩) (fun h => ?_)
    · have hc := e2 s h
      rw [nI_clamp (show s < 2 ^ 31 by omega), gf1 2 s (by omega), hc.2]
      rintro _ rfl
      rw [if_pos h] at h0 h1 word
      refine ⟨fun z => ?_, fun z => ?_⟩
      · have z' : ¬ t s = 59 := fun y => z (by rw [y]; rfl)
        rw [if_neg z'] at h0 h1 word
        refine x_letter hc.1 (fun y => b01 ?_) (fun y => b11 ?_)
        · rw [if_neg y] at h0 h1 word
          refine x_figure hc.1 (fun w => b01 ?_) (fun w => b11 ?_)
          · rw [if_neg w] at h0 h1
            rintro _ rfl _ rfl
            refine ⟨Or.inl rfl, h0 s rfl _ ?_ ?_ (fun a b q => ?_) ?_⟩
            · rw [mm2 (by omega), mm3]
            · rw [mm3, G7]
            · rw [st1_get, if_neg (by omega), st1_get, if_neg (by omega)]
              exact gf1 a b (by omega)
            · exact g2
          · rw [if_pos w] at h0 h1
            refine x_takeNum (T := T) (t := t) ⟨T6, by rw [gf1 1 1 (by omega)]; exact e1, fun i hi => by rw [gf1 2 i (by omega)]; exact e2 i hi⟩ h G8 G7 (fun n τ' t1 t2 t3 t4 => ?_) (fun n τ' t1 t2 t3 t4 t5 t6 => ?_)
            · rw [if_neg n] at h0
              exact ⟨Or.inl rfl, h0 s rfl τ' t1 t2 (fun a b q => by rw [t3 a b q]; exact gf1 a b (by omega)) (t4.trans g2)⟩
            · rw [if_pos n] at h1
              exact ⟨Or.inr rfl, h1 _ rfl τ' t1 t2 t3 (fun _ => t4) (fun a b q => by rw [t5 a b q]; exact gf1 a b q) (t6.trans g2)⟩
        · rw [if_pos y] at h0 h1 word
          rintro _ rfl
          refine word s _ rfl rfl rfl rfl (T - s) s _ (by omega) rfl ?_ ?_ mm3 (fun a b q => ?_) g2
          · rw [mm2 (by omega)]; exact G8
          · rw [mm2 (by omega)]; exact G7
          · rw [st1_get, if_neg (by omega)]
            exact gf1 a b q
      · have z' : t s = 59 := (nI_eq (b := 59) (by omega) (by omega)).mp z
        rw [if_pos z'] at h0 h1
        rintro _ rfl _ rfl
        refine h1 _ rfl _ ?_ ?_ ?_ (fun y => by cases y) (fun a b q => ?_) g2
        · rw [mm2 (by omega), mm3]; rfl
        · rw [mm2 (by omega), mm2 (by omega)]; exact G7
        · rw [mm3, mm2 (by omega), G8, nI_1]
        · rw [st1_get, if_neg (by omega), st1_get, if_neg (by omega)]
          exact gf1 a b q
    · rw [if_neg (by omega)] at h0 h1
      rintro _ rfl
      refine h1 _ rfl _ mm3 ?_ ?_ (fun y => by cases y) (fun a b q => ?_) g2
      · rw [mm2 (by omega)]; exact G7
      · rw [mm2 (by omega)]; exact G8
      · rw [st1_get, if_neg (by omega)]
        exact gf1 a b q
  have key : ∀ (m q : Nat) (τ : Mem), q + m = T → rT isSp t T p = rT isSp t T q → τ.1 1 8 = nI q → (∀ a b, ¬ (a = 1 ∧ b = 8) → τ.1 a b = σ.1 a b) → τ.2 = σ.2 → (τ.1 1 1 ≤ τ.1 1 8 → P38 τ) ∧ (¬ τ.1 1 1 ≤ τ.1 1 8 → vp_in (τ.1 1 8) 160 ∧ ((¬ τ.1 2 (τ.1 1 8).toNatClampNeg = 32 → P38 τ) ∧ (τ.1 2 (τ.1 1 8).toNatClampNeg = 32 → ∀ σ3 : Mem, σ3 = st1 τ 1 8 (τ.1 1 8 + 1) → P0 σ3))) := by
    intro m
    induction m with
    | zero =>
      intro q τ hq hr g8 gf g2
      have g8' := g8
      rw [g8, gf 1 1 (by omega), e1]
      rw [rT_end (p := q) (by omega)] at hr
      exact pk_le T q (fun _ => at38 q τ hr (by omega) g8' gf g2) (fun z => by omega)
    | succ m ih =>
      intro q τ hq hr g8 gf g2
      have g8' := g8
      have hc := e2 q (by omega)
      rw [g8, gf 1 1 (by omega), e1, nI_clamp (show q < 2 ^ 31 by omega), gf 2 q (by omega), hc.2]
      refine pk_le T q (fun z => by omega) (fun _ => ⟨pk_in q 160 (by omega), fun z => ?_, fun z => ?_⟩)
      · have z' : ¬ isSp (t q) = true := fun y => z (by rw [sp_iff.mp y]; rfl)
        rw [rT_stop (by omega) z'] at hr
        exact at38 q τ hr (by omega) g8' gf g2
      · have z' : isSp (t q) = true := sp_iff.mpr ((nI_eq (b := 32) (by omega) (by omega)).mp z)
        rw [rT_step (by omega) z'] at hr
        rintro _ rfl
        apply hP0
        rw [nI_1]
        exact ih (q + 1) _ (by omega) hr mm3 (fun a b h => by rw [st1_get, if_neg h]; exact gf a b h) g2
  exact key (T - p) p σ (by omega) rfl hp (fun _ _ _ => rfl) rfl
/-! the reference takes a token -/
theorem m_byte {q T : Nat} {t : Nat → Nat} {σ : Mem} {Q : Int32 → Mem → Prop} (hT : TM σ T t) (hq : q < 2 ^ 30) (h0 : T ≤ q → Q (-1) σ) (h1 : q < T → t q ≤ 127 → Q (nI (t q)) σ) : wp_X6_byteAt (nI q) σ Q := by
  obtain ⟨T6, e1, e2⟩ := hT
  unfold wp_X6_byteAt
  rw [e1]
  refine pk_le T q (fun h => h0 h) (fun h => ⟨pk_in q 160 (by omega), ?_⟩)
  rw [nI_clamp (show q < 2 ^ 31 by omega), (e2 q h).2]
  exact h1 h (e2 q h).1
theorem wc_n {a b c : Nat} (ha : a < 2 ^ 31) (hb : b < 2 ^ 31) (hc : c < 2 ^ 31) : wc (nI a) (nI b) (nI c) ↔ a ≤ c ∧ c ≤ b := by
  unfold wc
  rw [nI_leI ha hc, nI_leI hc hb]
theorem m_letter {c : Nat} {σ : Mem} {Q : Int32 → Mem → Prop} (hc : c ≤ 127) (h0 : ¬ isLe c = true → Q 0 σ) (h1 : isLe c = true → Q 1 σ) : wp_X6_in ((nI c).toInt64) 97 122 σ Q := by
  rw [le_iff] at h0 h1
  refine m_wi (nI 97) (nI 122) rfl rfl (fun h => h0 ?_) (fun h => h1 ?_)
  · rw [wc_n (by omega) (by omega) (by omega)] at h; exact h
  · rw [wc_n (by omega) (by omega) (by omega)] at h; exact h
theorem m_figure {c : Nat} {σ : Mem} {Q : Int32 → Mem → Prop} (hc : c ≤ 127) (h0 : ¬ isFi c = true → Q 0 σ) (h1 : isFi c = true → Q 1 σ) : wp_X6_in ((nI c).toInt64) 48 57 σ Q := by
  rw [fi_iff] at h0 h1
  refine m_wi (nI 48) (nI 57) rfl rfl (fun h => h0 ?_) (fun h => h1 ?_)
  · rw [wc_n (by omega) (by omega) (by omega)] at h; exact h
  · rw [wc_n (by omega) (by omega) (by omega)] at h; exact h
theorem m_takes {σ : Mem} {T p : Nat} {t : Nat → Nat} {Q : Mem → Prop} (hT : TM σ T t) (hf : σ.1 64 15 = 0) (hp : σ.1 64 11 = nI p) (hpT : p ≤ T)
    (h0 : ∀ s, tkE t T p = .error (1, s) → ∀ τ : Mem, τ.1 64 15 = 1 → τ.1 64 16 = nI s → (∀ a b, ¬ (a = 64 ∧ 11 ≤ b ∧ b ≤ 16) → τ.1 a b = σ.1 a b) → Q τ)
    (h1 : ∀ k : Tok, tkE t T p = .ok k → ∀ τ : Mem, τ.1 64 15 = 0 → τ.1 64 13 = nI k.k → τ.1 64 12 = nI k.s → τ.1 64 11 = nI k.n → (k.k = 2 → τ.1 64 14 = nI k.v) → (∀ a b, ¬ (a = 64 ∧ 11 ≤ b ∧ b ≤ 16) → τ.1 a b = σ.1 a b) → Q τ) : wp_X6_takes σ Q := by
  have T6 := hT.1
  have tm : ∀ τ : Mem, (∀ a b, ¬ (a = 64 ∧ 11 ≤ b ∧ b ≤ 16) → τ.1 a b = σ.1 a b) → TM τ T t := fun τ gf => ⟨hT.1, by rw [gf 64 10 (by omega)]; exact hT.2.1, fun i hi => by rw [gf 70 i (by omega)]; exact hT.2.2 i hi⟩
  intro P8 P82 P140 P201 P236 P260 h8 h82 h140 h201 h236 h260
  have at8 : ∀ (s : Nat) (τ : Mem), rT isSp t T p = s → s ≤ T → τ.1 64 11 = nI s → τ.1 64 12 = nI s → τ.1 64 15 = 0 → (∀ a b, ¬ (a = 64 ∧ 11 ≤ b ∧ b ≤ 16) → τ.1 a b = σ.1 a b) → wp_X6_byteAt (τ.1 64 11) τ (fun r6 σ5 => (0 ≤ r6 → wp_X6_in ((r6).toInt64) (97 : Int64) (122 : Int64) σ5 (fun r9 σ8 => (r9 = 0 → wp_X6_in ((r6).toInt64) (48 : Int64) (57 : Int64) σ8 (fun r12 σ11 => (r12 = 0 → ∀ σ14 : Mem, σ14 = st1 σ11 64 13 (3 : Int32) → (¬ r6 = (59 : Int32) → P260 (0 : Int32) σ14) ∧ (r6 = (59 : Int32) → P260 (1 : Int32) σ14)) ∧ (¬ r12 = 0 → ∀ σ16 : Mem, σ16 = st1 σ11 64 13 (2 : Int32) → ∀ σ17 : Mem, σ17 = st1 σ16 64 14 (0 : Int32) → P140 σ17))) ∧ (¬ r9 = 0 → ∀ σ18 : Mem, σ18 = st1 σ8 64 13 (1 : Int32) → P82 σ18))) ∧ (¬ 0 ≤ r6 → ∀ σ19 : Mem, σ19 = st1 σ5 64 13 (0 : Int32) → Q σ19)) := by
    intro s τ hs hsT g11 g12 g15 gf
    unfold tkE at h0 h1
    rw [hs] at h0 h1
    rw [g11]
    refine m_byte (tm τ gf) (by omega) (fun h => ?_) (fun h hc => ?_)
    · rw [if_neg (by omega)] at h1
      refine ⟨fun z => absurd z (by decide), fun _ => ?_⟩
      rintro _ rfl
      refine h1 _ rfl _ ?_ mm3 ?_ ?_ (fun y => by cases y) (fun a b q => ?_)
      · rw [mm2 (by omega)]; exact g15
      · rw [mm2 (by omega)]; exact g12
      · rw [mm2 (by omega)]; exact g11
      · rw [st1_get, if_neg (by omega)]; exact gf a b q
    · rw [if_pos h] at h0 h1
      refine ⟨fun _ => ?_, fun z => absurd (nI_pos' (by omega)) z⟩
      refine m_letter hc (fun y => b01 ?_) (fun y => b11 ?_)
      · refine m_figure hc (fun w => b01 ?_) (fun w => b11 ?_)
        · rintro _ rfl
          refine ⟨fun z => ?_, fun z => ?_⟩
          · have z' : ¬ t s = 59 := fun y => z (by rw [y]; rfl)
            rw [if_neg z', if_neg y, if_neg w] at h0
            apply h260
            refine ⟨fun q2 => absurd rfl q2, fun _ => ?_⟩
            rw [mm2 (show (15 : Nat) ≠ 13 by omega), g15]
            refine b00 ?_
            rintro _ rfl _ rfl _ rfl
            refine h0 s rfl _ ?_ ?_ (fun a b q => ?_)
            · rw [mm2 (by omega), mm2 (by omega), mm3]
            · rw [mm2 (by omega), mm3, mm2 (by omega), mm2 (by omega)]; exact g12
            · rw [st1_get, if_neg (by omega), st1_get, if_neg (by omega), st1_get, if_neg (by omega), st1_get, if_neg (by omega)]
              exact gf a b q
          · have z' : t s = 59 := (nI_eq (b := 59) (by omega) (by omega)).mp z
            rw [if_pos z'] at h1
            apply h260
            refine ⟨fun _ => ?_, fun q => absurd q (by decide)⟩
            rintro _ rfl
            refine h1 _ rfl _ ?_ ?_ ?_ ?_ (fun y => by cases y) (fun a b q => ?_)
            · rw [mm2 (by omega), mm2 (by omega)]; exact g15
            · rw [mm2 (by omega), mm3]; rfl
            · rw [mm2 (by omega), mm2 (by omega)]; exact g12
            · rw [mm3, mm2 (by omega), g11, nI_1]
            · rw [st1_get, if_neg (by omega), st1_get, if_neg (by omega)]; exact gf a b q
        · rintro _ rfl _ rfl
          have z' : ¬ t s = 59 := fun z => by have := fi_iff.mp w; omega
          rw [if_neg z', if_neg y, if_pos w] at h0 h1
          have num : ∀ (m q : Nat) (υ : Mem), q + m = T → s ≤ q → rT isFi t T s = rT isFi t T q → υ.1 64 11 = nI q → υ.1 64 12 = nI s → υ.1 64 13 = 2 → υ.1 64 15 = 0 → (q - s ≤ 2 → υ.1 64 14 = nI (vN t s (q - s))) → (∀ a b, ¬ (a = 64 ∧ 11 ≤ b ∧ b ≤ 16) → υ.1 a b = σ.1 a b) → P140 υ := by
            intro m
            have ending : ∀ (q : Nat) (υ : Mem), s ≤ q → q ≤ T → rT isFi t T s = q → υ.1 64 11 = nI q → υ.1 64 12 = nI s → υ.1 64 13 = 2 → υ.1 64 15 = 0 → (q - s ≤ 2 → υ.1 64 14 = nI (vN t s (q - s))) → (∀ a b, ¬ (a = 64 ∧ 11 ≤ b ∧ b ≤ 16) → υ.1 a b = σ.1 a b) → ((2 : Int32) < (υ.1 64 11 - υ.1 64 12) → P236 (0 : Int32) υ) ∧ (¬ (2 : Int32) < (υ.1 64 11 - υ.1 64 12) → P236 (1 : Int32) υ) := by
              intro q υ hsq hqT hr k11 k12 k13 k15 k14 kf
              have k12' := k12
              rw [k11, k12, pk_sub hsq]
              rw [hr] at h0 h1
              refine pk_lt 2 (q - s) (fun z => ?_) (fun z => ?_)
              · apply h236
                refine ⟨fun q2 => absurd rfl q2, fun _ => ?_⟩
                rw [k15]
                refine b00 ?_
                rintro _ rfl _ rfl
                rw [if_neg (by omega)] at h0
                refine h0 s rfl _ ?_ ?_ (fun a b y => ?_)
                · rw [mm2 (by omega), mm3]
                · rw [mm3, mm2 (by omega)]; exact k12'
                · rw [st1_get, if_neg (by omega), st1_get, if_neg (by omega)]; exact kf a b y
              · apply h236
                refine ⟨fun _ => ?_, fun y => absurd y (by decide)⟩
                rw [if_pos z] at h1
                exact h1 _ rfl υ k15 k13 k12' k11 (fun _ => k14 z) kf
            induction m with
            | zero =>
              intro q υ hq hsq hr k11 k12 k13 k15 k14 kf
              apply h140
              rw [k11]
              rw [rT_end (p := q) (by omega)] at hr
              refine m_byte (tm υ kf) (by omega) (fun _ => ?_) (fun z => by omega)
              refine m_wi (nI 48) (nI 57) rfl rfl (fun _ => b01 (ending q υ hsq (by omega) hr k11 k12 k13 k15 k14 kf)) (fun z => absurd z.1 (by decide))
            | succ m ih =>
              intro q υ hq hsq hr k11 k12 k13 k15 k14 kf
              apply h140
              have k11' := k11
              rw [k11]
              refine m_byte (tm υ kf) (by omega) (fun z => by omega) (fun hqT hcq => ?_)
              refine m_figure hcq (fun z => b01 ?_) (fun z => b11 ?_)
              · rw [rT_stop hqT z] at hr
                exact ending q υ hsq (by omega) hr k11' k12 k13 k15 k14 kf
              · rw [rT_step hqT z] at hr
                have f := fi_iff.mp z
                have nxt : ∀ c, (q + 1 - s ≤ 2 → c = nI (vN t s (q + 1 - s))) → P201 c υ := by
                  intro c hc
                  apply h201
                  rintro _ rfl
                  rw [mm2 (by omega), k11', nI_1]
                  rintro _ rfl
                  refine ih (q + 1) _ (by omega) (by omega) hr mm3 ?_ ?_ ?_ (fun y => ?_) (fun a b y => ?_)
                  · rw [mm2 (by omega), mm2 (by omega)]; exact k12
                  · rw [mm2 (by omega), mm2 (by omega)]; exact k13
                  · rw [mm2 (by omega), mm2 (by omega)]; exact k15
                  · rw [mm2 (by omega), mm3]; exact hc y
                  · rw [st1_get, if_neg (by omega), st1_get, if_neg (by omega)]; exact kf a b y
                rw [k11', k12, pk_sub hsq]
                refine pk_le 2 (q - s) (fun y => nxt _ (fun y2 => by omega)) (fun y => ?_)
                refine m_byte (tm υ kf) (by omega) (fun z => by omega) (fun _ _ => nxt _ (fun _ => ?_))
                rw [k14 (by omega), show (10 : Int32) = nI 10 from rfl, show (48 : Int32) = nI 48 from rfl, pk_mul, nI_add, pk_sub (by omega), show q + 1 - s = q - s + 1 by omega]
                show nI (10 * vN t s (q - s) + t q - 48) = nI (vN t s (q - s) * 10 + (t (s + (q - s)) - 48))
                rw [show s + (q - s) = q by omega, Nat.mul_comm, Nat.add_sub_assoc f.1]
          refine num (T - s) s _ (by omega) (by omega) rfl ?_ ?_ ?_ ?_ (fun _ => ?_) (fun a b q => ?_)
          · rw [mm2 (by omega), mm2 (by omega)]; exact g11
          · rw [mm2 (by omega), mm2 (by omega)]; exact g12
          · rw [mm2 (by omega), mm3]
          · rw [mm2 (by omega), mm2 (by omega)]; exact g15
          · rw [mm3, Nat.sub_self]; rfl
          · rw [st1_get, if_neg (by omega), st1_get, if_neg (by omega)]; exact gf a b q
      · rintro _ rfl
        have z' : ¬ t s = 59 := fun z => by have := le_iff.mp y; omega
        rw [if_neg z', if_pos y] at h1
        have word : ∀ (m q : Nat) (υ : Mem), q + m = T → s ≤ q → rT isLe t T s = rT isLe t T q → υ.1 64 11 = nI q → υ.1 64 12 = nI s → υ.1 64 13 = 1 → υ.1 64 15 = 0 → (∀ a b, ¬ (a = 64 ∧ 11 ≤ b ∧ b ≤ 16) → υ.1 a b = σ.1 a b) → P82 υ := by
          intro m
          induction m with
          | zero =>
            intro q υ hq hsq hr k11 k12 k13 k15 kf
            apply h82
            have k11' := k11
            rw [k11]
            rw [rT_end (p := q) (by omega)] at hr
            refine m_byte (tm υ kf) (by omega) (fun _ => ?_) (fun z => by omega)
            rw [hr] at h1
            refine m_wi (nI 97) (nI 122) rfl rfl (fun _ => b01 (h1 _ rfl υ k15 k13 k12 k11' (fun y => by cases y) kf)) (fun z => absurd z.1 (by decide))
          | succ m ih =>
            intro q υ hq hsq hr k11 k12 k13 k15 kf
            apply h82
            have k11' := k11
            rw [k11]
            refine m_byte (tm υ kf) (by omega) (fun z => by omega) (fun hqT hcq => ?_)
            refine m_letter hcq (fun z => b01 ?_) (fun z => b11 ?_)
            · rw [rT_stop hqT z] at hr
              rw [hr] at h1
              exact h1 _ rfl υ k15 k13 k12 k11' (fun y => by cases y) kf
            · rw [rT_step hqT z] at hr
              rw [k11', nI_1]
              rintro _ rfl
              refine ih (q + 1) _ (by omega) (by omega) hr mm3 ?_ ?_ ?_ (fun a b y => ?_)
              · rw [mm2 (by omega)]; exact k12
              · rw [mm2 (by omega)]; exact k13
              · rw [mm2 (by omega)]; exact k15
              · rw [st1_get, if_neg (by omega)]; exact kf a b y
        refine word (T - s) s _ (by omega) (by omega) rfl ?_ ?_ mm3 ?_ (fun a b q => ?_)
        · rw [mm2 (by omega)]; exact g11
        · rw [mm2 (by omega)]; exact g12
        · rw [mm2 (by omega)]; exact g15
        · rw [st1_get, if_neg (by omega)]; exact gf a b q
  have key : ∀ (m q : Nat) (τ : Mem), q + m = T → rT isSp t T p = rT isSp t T q → τ.1 64 11 = nI q → τ.1 64 15 = 0 → (∀ a b, ¬ (a = 64 ∧ 11 ≤ b ∧ b ≤ 16) → τ.1 a b = σ.1 a b) → P8 τ := by
    intro m
    induction m with
    | zero =>
      intro q τ hq hr g11 g15 gf
      apply h8
      have g11' := g11
      rw [g11]
      rw [rT_end (p := q) (by omega)] at hr
      refine m_byte (tm τ gf) (by omega) (fun _ => ?_) (fun z => by omega)
      refine ⟨fun _ => ?_, fun z => absurd z (by decide)⟩
      rintro _ rfl
      refine at8 q _ hr (by omega) ?_ (by rw [mm3]; exact g11') ?_ (fun a b h => ?_)
      · rw [mm2 (by omega)]; exact g11'
      · rw [mm2 (by omega)]; exact g15
      · rw [st1_get, if_neg (by omega)]; exact gf a b h
    | succ m ih =>
      intro q τ hq hr g11 g15 gf
      apply h8
      have g11' := g11
      rw [g11]
      refine m_byte (tm τ gf) (by omega) (fun z => by omega) (fun hqT hcq => ?_)
      refine ⟨fun z => ?_, fun z => ?_⟩
      · have z' : ¬ isSp (t q) = true := fun y => z (by rw [sp_iff.mp y]; rfl)
        rw [rT_stop hqT z'] at hr
        rintro _ rfl
        refine at8 q _ hr (by omega) ?_ (by rw [mm3]; exact g11') ?_ (fun a b h => ?_)
        · rw [mm2 (by omega)]; exact g11'
        · rw [mm2 (by omega)]; exact g15
        · rw [st1_get, if_neg (by omega)]; exact gf a b h
      · have z' : isSp (t q) = true := sp_iff.mpr ((nI_eq (b := 32) (by omega) (by omega)).mp z)
        rw [rT_step hqT z'] at hr
        rw [g11', nI_1]
        rintro _ rfl
        exact ih (q + 1) _ (by omega) hr mm3 (by rw [mm2 (by omega)]; exact g15) (fun a b h => by rw [st1_get, if_neg (by omega)]; exact gf a b h)
  rw [hf]
  exact ⟨fun _ => key (T - p) p σ (by omega) rfl hp hf (fun _ _ _ => rfl), fun z => absurd (by decide) z⟩
