/-! again, ruins, runs, ahead, rule, heir, line -/
def sameL (A B : Nat → Nat) : Prop := ∀ i, i < A 24 → B (25 + i) = A (25 + i)
theorem x_stands {σ : Mem} {A B : Nat → Nat} {Q : Int32 → Mem → Prop} (hA : RX σ 12 A) (hB : RX σ 19 B) (hn : B 24 = A 24) (h1 : sameL A B → Q 1 σ) (h0 : ¬ sameL A B → Q 0 σ) : wp_X0_standsAs 19 12 σ Q := by
  have wa := hA.1.1
  intro P2 hP
  have key : ∀ m j : Nat, j + m = A 24 → (∀ i, i < j → B (25 + i) = A (25 + i)) → P2 (nI j) σ := by
    intro m
    induction m with
    | zero =>
      intro j hj g
      apply hP
      rw [hB.2.1, hn]
      refine pk_le (A 24) j (fun _ => h1 (fun i hi => g i (by omega))) (fun q => by omega)
    | succ m ih =>
      intro j hj g
      apply hP
      rw [hB.2.1, hn]
      refine pk_le (A 24) j (fun q => by omega) (fun _ => ?_)
      have b1 := hA.1.2.2.1 j (by omega)
      have b2 := hB.1.2.2.1 j (by omega)
      rw [nI_clamp (show j < 2 ^ 31 by omega), hB.2.2.2.1 j (by omega), hA.2.2.2.1 j (by omega)]
      refine ⟨pk_in j 6 (by omega), pk_in j 6 (by omega), fun q => ?_, fun q => ?_⟩
      · rintro _ rfl
        rw [nI_1]
        rw [nI_eq (by omega) (by omega)] at q
        exact ih (j + 1) (by omega) (fun i hi => by
          rcases Nat.lt_or_eq_of_le (Nat.le_of_lt_succ hi) with h | h
          · exact g i h
          · rw [h]; exact q)
      · refine h0 (fun hs => q ?_)
        rw [hs j (by omega)]
  exact key (A 24) 0 (by omega) (fun i hi => by omega)
theorem m_again1 {σ : Mem} {A B : Nat → Nat} {Q : Int32 → Mem → Prop} (hA : Rl (σ.1 65) A) (hB : Rl (σ.1 66) B) (hn : B 24 = A 24) (h1 : sameL A B → Q 1 σ) (h0 : ¬ sameL A B → Q 0 σ) : wp_X6_isLineAgain σ Q := by
  have wa := hA.1.1
  intro P4 P44 P45 hP hP44 hP45
  simp only [tc24, show (25 : Int32) = nI 25 from rfl] at hP
  have key : ∀ m j : Nat, ∀ x : Int32, j + m = A 24 → ((x = 1 ∧ ∀ i, i < j → B (25 + i) = A (25 + i)) ∨ (x = 0 ∧ ¬ sameL A B)) → P4 x (nI j) σ := by
    intro m
    induction m with
    | zero =>
      intro j x hj g
      apply hP
      rw [hB.2.1, hn]
      refine pk_le (A 24) j (fun _ => ?_) (fun q => by omega)
      rcases g with ⟨rfl, g⟩ | ⟨rfl, g⟩
      · exact ⟨Or.inr rfl, h1 (fun i hi => g i (by omega))⟩
      · exact ⟨Or.inl rfl, h0 g⟩
    | succ m ih =>
      intro j x hj g
      apply hP
      rw [hB.2.1, hn]
      refine pk_le (A 24) j (fun q => by omega) (fun _ => ?_)
      have b1 := hA.1.2.2.1 j (by omega)
      have b2 := hB.1.2.2.1 j (by omega)
      have bad : ¬ sameL A B → P44 (nI j) σ := by
        intro hs
        refine hP44 _ _ (hP45 _ _ _ ?_)
        rintro _ rfl
        rw [nI_1]
        exact ih (j + 1) 0 (by omega) (Or.inr ⟨rfl, hs⟩)
      rcases g with ⟨rfl, g⟩ | ⟨rfl, g⟩
      · refine b11 ?_
        rw [nI_add, nI_clamp (show 25 + j < 2 ^ 31 by omega), hB.2.2.2.1 j (by omega), hA.2.2.2.1 j (by omega)]
        refine ⟨pk_in (25 + j) 49 (by omega), pk_in (25 + j) 147 (by omega), fun q => ?_, fun q => ?_⟩
        · exact bad (fun hs => q (by rw [hs j (by omega)]))
        · refine hP45 _ _ _ ?_
          rintro _ rfl
          rw [nI_1]
          rw [nI_eq (by omega) (by omega)] at q
          exact ih (j + 1) 1 (by omega) (Or.inl ⟨rfl, fun i hi => by
            rcases Nat.lt_or_eq_of_le (Nat.le_of_lt_succ hi) with h | h
            · exact g i h
            · rw [h]; exact q⟩)
      · exact b01 (bad g)
  exact key (A 24) 0 1 (by omega) (Or.inl ⟨rfl, fun i hi => by omega⟩)
noncomputable def agnA (A : Nat → Nat) : Nat → Nat → (Nat → Nat) → Int32
  | 0, _, _ => -4
  | m + 1, j, B => cs (sameL A (crA B false)) (nI j) (agnA A m (j + 1) (crA B false))
noncomputable def aAgain (A : Nat → Nat) : Int32 := ans True A (agnA A 60 1 A)
theorem x_again {σ : Mem} {A : Nat → Nat} {Q : Int32 → Mem → Prop} (hR : RX σ 12 A) (hQ : ∀ τ : Mem, KX σ τ → Q (aAgain A) τ) : wp_X5_again σ Q := by
  have w := hR.1.1
  intro P25 hP
  refine x_ref hR (fun q => absurd q (by decide)) (fun _ q => ?_) (fun _ h2 => ?_)
  · have := hQ σ KX.rf
    rw [show aAgain A = -2 from ans_two trivial q] at this
    exact this
  have hQ' : ∀ τ : Mem, KX σ τ → Q (agnA A 60 1 A) τ := fun τ t => by
    have := hQ τ t
    rw [show aAgain A = agnA A 60 1 A from ans_yes trivial h2] at this
    exact this
  have key : ∀ m j : Nat, ∀ B : Nat → Nat, ∀ τ : Mem, j + m = 61 → RX τ 19 B → B 24 = A 24 → agnA A m j B = agnA A 60 1 A → KX σ τ → P25 (nI j) τ := by
    intro m
    induction m with
    | zero =>
      intro j B τ hj g1 g2 g3 g4
      apply hP
      refine pk_lt 60 j (fun _ => ?_) (fun q => by omega)
      have := hQ' τ g4
      rw [← g3] at this
      exact this
    | succ m ih =>
      intro j B τ hj g1 g2 g3 g4
      apply hP
      refine pk_lt 60 j (fun q => by omega) (fun _ => ?_)
      refine x_crown0 g1 (by omega) (fun υ u1 _ _ _ _ _ u2 u3 => ?_)
      have k := g4.tr (KX.of u2 u3)
      have hn : crA B false 24 = A 24 := by rw [crA_n g1.1 (by omega), g2]
      refine x_stands (hR.now k) u1 hn (fun hs => b11 ?_) (fun hs => b01 ?_)
      · have := hQ' υ k
        rw [← g3, show agnA A (m + 1) j B = nI j from cs_t hs] at this
        exact this
      · rintro _ rfl
        rw [nI_1]
        refine ih (j + 1) _ υ (by omega) u1 hn ?_ k
        rw [← g3]
        exact (cs_f hs).symm
  exact x_try hR (fun τ t1 _ t2 => key 60 1 A τ (by omega) t1 rfl rfl t2)
theorem m_again {σ : Mem} {A : Nat → Nat} {Q : Int32 → Mem → Prop} (hR : Rl (σ.1 65) A) (hQ : ∀ τ : Mem, KM σ τ → Q (aAgain A) τ) : wp_X6_again σ Q := by
  have w := hR.1.1
  intro P16 hP
  refine m_twoR hR (fun q => b00 ?_) (fun h2 => b10 ?_)
  · have := hQ σ KM.rf
    rw [show aAgain A = -2 from ans_two trivial q] at this
    exact this
  have hQ' : ∀ τ : Mem, KM σ τ → Q (agnA A 60 1 A) τ := fun τ t => by
    have := hQ τ t
    rw [show aAgain A = agnA A 60 1 A from ans_yes trivial h2] at this
    exact this
  have key : ∀ m j : Nat, ∀ B : Nat → Nat, ∀ τ : Mem, j + m = 61 → Rl (τ.1 66) B → B 24 = A 24 → agnA A m j B = agnA A 60 1 A → KM σ τ → P16 (nI j) τ := by
    intro m
    induction m with
    | zero =>
      intro j B τ hj g1 g2 g3 g4
      apply hP
      refine pk_lt 60 j (fun _ => ?_) (fun q => by omega)
      have := hQ' τ g4
      rw [← g3] at this
      exact this
    | succ m ih =>
      intro j B τ hj g1 g2 g3 g4
      apply hP
      refine pk_lt 60 j (fun q => by omega) (fun _ => ?_)
      refine m_reign0 g1 (by omega) (fun υ u1 _ _ _ u2 => ?_)
      have k := g4.tr u2.km
      have hn : crA B false 24 = A 24 := by rw [crA_n g1.1 (by omega), g2]
      refine m_again1 (hR.now k) u1 hn (fun hs => b11 ?_) (fun hs => b01 ?_)
      · have := hQ' υ k
        rw [← g3, show agnA A (m + 1) j B = nI j from cs_t hs] at this
        exact this
      · rintro _ rfl
        rw [nI_1]
        refine ih (j + 1) _ υ (by omega) u1 hn ?_ k
        rw [← g3]
        exact (cs_f hs).symm
  exact m_try hR (fun τ t1 _ t2 => key 60 1 A τ (by omega) t1 rfl rfl t2)
/-! ruins -/
noncomputable def ruiA : Nat → Nat → (Nat → Nat) → Int32
  | 0, _, _ => -4
  | m + 1, j, B => cs (B 32 = 0) (nI j) (ruiA m (j + 1) (crA B false))
noncomputable def aRuins (A : Nat → Nat) : Int32 := ans True A (ruiA 61 0 A)
theorem x_ruins {σ : Mem} {A : Nat → Nat} {Q : Int32 → Mem → Prop} (hR : RX σ 12 A) (hQ : ∀ τ : Mem, KX σ τ → Q (aRuins A) τ) : wp_X5_ruins σ Q := by
  have w := hR.1.1
  intro P25 hP
  refine x_ref hR (fun q => absurd q (by decide)) (fun _ q => ?_) (fun _ h2 => ?_)
  · have := hQ σ KX.rf
    rw [show aRuins A = -2 from ans_two trivial q] at this
    exact this
  have hQ' : ∀ τ : Mem, KX σ τ → Q (ruiA 61 0 A) τ := fun τ t => by
    have := hQ τ t
    rw [show aRuins A = ruiA 61 0 A from ans_yes trivial h2] at this
    exact this
  have key : ∀ m j : Nat, ∀ B : Nat → Nat, ∀ τ : Mem, j + m = 61 → RX τ 19 B → B 24 = A 24 → ruiA m j B = ruiA 61 0 A → KX σ τ → P25 (nI j) τ := by
    intro m
    induction m with
    | zero =>
      intro j B τ hj g1 g2 g3 g4
      apply hP
      refine pk_lt 60 j (fun _ => ?_) (fun q => by omega)
      have := hQ' τ g4
      rw [← g3] at this
      exact this
    | succ m ih =>
      intro j B τ hj g1 g2 g3 g4
      apply hP
      refine pk_lt 60 j (fun q => by omega) (fun _ => ?_)
      have e4 := g1.2.2.2.2 32 (by omega) (by omega)
      have b4 := g1.1.2.2.2.2.2.2
      simp only [Nat.reduceSub] at e4
      rw [e4]
      refine ⟨fun q => ?_, fun q => ?_⟩
      · refine x_crown0 g1 (by omega) (fun υ u1 _ _ _ _ _ u2 u3 => ?_)
        rintro _ rfl
        rw [nI_1]
        refine ih (j + 1) _ υ (by omega) u1 (by rw [crA_n g1.1 (by omega), g2]) ?_ (g4.tr (KX.of u2 u3))
        rw [← g3]
        exact (cs_f (fun e => q (by rw [e]; rfl))).symm
      · have he : B 32 = 0 := (nI_eq (by omega) (by omega)).mp (q.trans nI_0.symm)
        have := hQ' τ g4
        rw [← g3, show ruiA (m + 1) j B = nI j from cs_t he] at this
        exact this
  exact x_try hR (fun τ t1 _ t2 => key 61 0 A τ (by omega) t1 rfl rfl t2)
theorem m_ruins {σ : Mem} {A : Nat → Nat} {Q : Int32 → Mem → Prop} (hR : Rl (σ.1 65) A) (hQ : ∀ τ : Mem, KM σ τ → Q (aRuins A) τ) : wp_X6_ruins σ Q := by
  have w := hR.1.1
  intro P16 hP
  refine m_twoR hR (fun q => b00 ?_) (fun h2 => b10 ?_)
  · have := hQ σ KM.rf
    rw [show aRuins A = -2 from ans_two trivial q] at this
    exact this
  have hQ' : ∀ τ : Mem, KM σ τ → Q (ruiA 61 0 A) τ := fun τ t => by
    have := hQ τ t
    rw [show aRuins A = ruiA 61 0 A from ans_yes trivial h2] at this
    exact this
  simp only [tc32] at hP
  have key : ∀ m j : Nat, ∀ B : Nat → Nat, ∀ τ : Mem, j + m = 61 → Rl (τ.1 66) B → B 24 = A 24 → ruiA m j B = ruiA 61 0 A → KM σ τ → P16 (nI j) τ := by
    intro m
    induction m with
    | zero =>
      intro j B τ hj g1 g2 g3 g4
      apply hP
      refine pk_lt 60 j (fun _ => ?_) (fun q => by omega)
      have := hQ' τ g4
      rw [← g3] at this
      exact this
    | succ m ih =>
      intro j B τ hj g1 g2 g3 g4
      apply hP
      refine pk_lt 60 j (fun q => by omega) (fun _ => ?_)
      have e4 := g1.2.2.2.2 32 (by omega) (by omega)
      have b4 := g1.1.2.2.2.2.2.2
      rw [e4]
      refine ⟨fun q => ?_, fun q => ?_⟩
      · refine m_reign0 g1 (by omega) (fun υ u1 _ _ _ u2 => ?_)
        rintro _ rfl
        rw [nI_1]
        refine ih (j + 1) _ υ (by omega) u1 (by rw [crA_n g1.1 (by omega), g2]) ?_ (g4.tr u2.km)
        rw [← g3]
        exact (cs_f (fun e => q (by rw [e]; rfl))).symm
      · have he : B 32 = 0 := (nI_eq (by omega) (by omega)).mp (q.trans nI_0.symm)
        have := hQ' τ g4
        rw [← g3, show ruiA (m + 1) j B = nI j from cs_t he] at this
        exact this
  exact m_try hR (fun τ t1 _ t2 => key 61 0 A τ (by omega) t1 rfl rfl t2)
/-! place in the line -/
noncomputable def plcA (A : Nat → Nat) (h : Nat) : Nat := Classical.epsilon (fun i => i < A 24 ∧ A (25 + i) = h)
theorem plc_ok {A : Nat → Nat} {h : Nat} (w : WF A) (hh : h < A 24) : plcA A h < A 24 ∧ A (25 + plcA A h) = h := Classical.epsilon_spec (w.2.2.2.2.1 h hh)
theorem x_placeA {d h : Nat} {σ : Mem} {A : Nat → Nat} {Q : Int32 → Mem → Prop} (hR : RX σ d A) (hh : h < A 24) (hQ : Q (nI (plcA A h)) σ) : wp_X0_placeOf d (nI h) σ Q := by
  obtain ⟨p1, p2⟩ := plc_ok hR.1 hh
  have := x_place (Q := Q) hR p1 hQ
  rw [p2] at this
  exact this
theorem m_placeA {h : Nat} {σ : Mem} {A : Nat → Nat} {Q : Int32 → Mem → Prop} (hR : Rl (σ.1 66) A) (hh : h < A 24) (hQ : Q (nI (plcA A h)) σ) : wp_X6_placeOf (nI h) σ Q := by
  obtain ⟨p1, p2⟩ := plc_ok hR.1 hh
  have wa := hR.1.1
  intro P5 P34 hP hP34
  simp only [tc24, show (25 : Int32) = nI 25 from rfl] at hP
  have key : ∀ m j : Nat, ∀ x : Int32, j + m = A 24 → (plcA A h < j → x = nI (plcA A h)) → P5 x (nI j) σ := by
    intro m
    induction m with
    | zero =>
      intro j x hj g
      apply hP
      rw [hR.2.1]
      refine pk_le (A 24) j (fun _ => ?_) (fun q => by omega)
      rw [g (by omega)]
      exact hQ
    | succ m ih =>
      intro j x hj g
      apply hP
      rw [hR.2.1]
      refine pk_le (A 24) j (fun q => by omega) (fun _ => ?_)
      have b1 := hR.1.2.2.1 j (by omega)
      rw [nI_add, nI_clamp (show 25 + j < 2 ^ 31 by omega), hR.2.2.2.1 j (by omega)]
      refine ⟨pk_in (25 + j) 49 (by omega), fun q => ?_, fun q => ?_⟩
      · refine hP34 _ _ _ ?_
        rintro _ rfl
        rw [nI_1]
        refine ih (j + 1) x (by omega) (fun hl => ?_)
        rcases Nat.lt_or_eq_of_le (Nat.le_of_lt_succ hl) with h1 | h1
        · exact g h1
        · exact absurd (by rw [← h1, p2]) q
      · refine hP34 _ _ _ ?_
        rintro _ rfl
        rw [nI_1]
        rw [nI_eq (by omega) (by omega)] at q
        have := hR.1.2.2.2.1 j (plcA A h) (by omega) p1 (by rw [q, p2])
        exact ih (j + 1) (nI j) (by omega) (fun _ => by rw [this])
  exact key (A 24) 0 (-4) (by omega) (fun q => by omega)
/-! rule, line, heir -/
noncomputable def aRule (A : Nat → Nat) (a : Int32) : Int32 := cs (a = 0) (nI (A 24)) (cs (a = 1) (nI (A 33)) (cs (a = 2) (nI (A 32)) (cs (a = 3) (nI (A 31)) (cs (a = 4) (nI (A 34)) (cs (a = 5) (nI (A 35)) (-1))))))
theorem x_rule {a : Int32} {σ : Mem} {A : Nat → Nat} {Q : Int32 → Mem → Prop} (hR : RX σ 12 A) (hQ : Q (aRule A a) σ) : wp_X5_rule a σ Q := by
  have e2 := hR.2.1
  have e33 := hR.2.2.2.2 33 (by omega) (by omega)
  have e32 := hR.2.2.2.2 32 (by omega) (by omega)
  have e31 := hR.2.2.2.2 31 (by omega) (by omega)
  have e34 := hR.2.2.2.2 34 (by omega) (by omega)
  have e35 := hR.2.2.2.2 35 (by omega) (by omega)
  simp only [Nat.reduceSub] at e33 e32 e31 e34 e35
  unfold wp_X5_rule
  unfold aRule at hQ
  rw [e2, e33, e32, e31, e34, e35]
  refine ⟨fun h => ?_, fun h => ?_, fun h => ?_, fun h => ?_, fun h => ?_, fun h => ?_, fun h0 h1 h2 h3 h4 h5 => ?_⟩
  · rw [cs_t h] at hQ; exact hQ
  · subst h; rw [cs_f (by decide), cs_t rfl] at hQ; exact hQ
  · subst h; rw [cs_f (by decide), cs_f (by decide), cs_t rfl] at hQ; exact hQ
  · subst h; rw [cs_f (by decide), cs_f (by decide), cs_f (by decide), cs_t rfl] at hQ; exact hQ
  · subst h; rw [cs_f (by decide), cs_f (by decide), cs_f (by decide), cs_f (by decide), cs_t rfl] at hQ; exact hQ
  · subst h; rw [cs_f (by decide), cs_f (by decide), cs_f (by decide), cs_f (by decide), cs_f (by decide), cs_t rfl] at hQ; exact hQ
  · rw [cs_f h0, cs_f h1, cs_f h2, cs_f h3, cs_f h4, cs_f h5] at hQ; exact hQ
theorem m_rule {a : Int32} {σ : Mem} {A : Nat → Nat} {Q : Int32 → Mem → Prop} (hR : Rl (σ.1 65) A) (hQ : Q (aRule A a) σ) : wp_X6_rule a σ Q := by
  have e2 := hR.2.1
  have e33 := hR.2.2.2.2 33 (by omega) (by omega)
  have e32 := hR.2.2.2.2 32 (by omega) (by omega)
  have e31 := hR.2.2.2.2 31 (by omega) (by omega)
  have e34 := hR.2.2.2.2 34 (by omega) (by omega)
  have e35 := hR.2.2.2.2 35 (by omega) (by omega)
  unfold wp_X6_rule
  unfold aRule at hQ
  rw [tc24, tc33, tc32, tc31, tc34, tc35, e2, e33, e32, e31, e34, e35]
  refine ⟨fun h => ?_, fun h => ?_, fun h => ?_, fun h => ?_, fun h => ?_, fun h => ?_, fun h0 h1 h2 h3 h4 h5 => ?_⟩
  · rw [cs_t h] at hQ; exact hQ
  · subst h; rw [cs_f (by decide), cs_t rfl] at hQ; exact hQ
  · subst h; rw [cs_f (by decide), cs_f (by decide), cs_t rfl] at hQ; exact hQ
  · subst h; rw [cs_f (by decide), cs_f (by decide), cs_f (by decide), cs_t rfl] at hQ; exact hQ
  · subst h; rw [cs_f (by decide), cs_f (by decide), cs_f (by decide), cs_f (by decide), cs_t rfl] at hQ; exact hQ
  · subst h; rw [cs_f (by decide), cs_f (by decide), cs_f (by decide), cs_f (by decide), cs_f (by decide), cs_t rfl] at hQ; exact hQ
  · rw [cs_f h0, cs_f h1, cs_f h2, cs_f h3, cs_f h4, cs_f h5] at hQ; exact hQ
noncomputable def aLine (A : Nat → Nat) (a : Int32) : Int32 := cs (hc A a) (nI (A (25 + a.toNatClampNeg))) (-1)
theorem x_line {a : Int32} {σ : Mem} {A : Nat → Nat} {Q : Int32 → Mem → Prop} (hR : RX σ 12 A) (hQ : Q (aLine A a) σ) : wp_X5_line a σ Q := by
  have w := hR.1.1
  unfold wp_X5_line
  unfold aLine at hQ
  refine x_isPlace hR.2.1 (fun h => b01 ?_) (fun h => b11 ?_)
  · rw [cs_f h] at hQ; exact hQ
  · rw [cs_t h] at hQ
    obtain ⟨j, hj, rfl⟩ := hc_of w h
    rw [nI_clamp (show j < 2 ^ 31 by omega)] at hQ ⊢
    refine ⟨pk_in j 6 (by omega), ?_⟩
    have := hR.2.2.2.1 j hj
    simp only [Nat.reduceAdd] at this ⊢
    rw [this]
    exact hQ
theorem m_line {a : Int32} {σ : Mem} {A : Nat → Nat} {Q : Int32 → Mem → Prop} (hR : Rl (σ.1 65) A) (hQ : Q (aLine A a) σ) : wp_X6_line a σ Q := by
  have w := hR.1.1
  unfold wp_X6_line
  unfold aLine at hQ
  refine m_heir hR.2.1 (fun h => b01 ?_) (fun h => b11 ?_)
  · rw [cs_f h] at hQ; exact hQ
  · rw [cs_t h] at hQ
    obtain ⟨j, hj, rfl⟩ := hc_of w h
    rw [nI_clamp (show j < 2 ^ 31 by omega)] at hQ
    rw [show (25 : Int32) = nI 25 from rfl, nI_add, nI_clamp (show 25 + j < 2 ^ 31 by omega)]
    refine ⟨pk_in (25 + j) 147 (by omega), ?_⟩
    rw [hR.2.2.2.1 j hj]
    exact hQ
noncomputable def aHeir (A : Nat → Nat) (a b : Int32) : Int32 := cs (hc A a ∧ wc 0 5 b) (cs (b.toNatClampNeg < 4) (nI (A (4 * a.toNatClampNeg + b.toNatClampNeg))) (cs (b.toNatClampNeg = 4) (nI (hgt A a.toNatClampNeg)) (nI (plcA A a.toNatClampNeg)))) (-1)
theorem x_heir {a b : Int32} {σ : Mem} {A : Nat → Nat} {Q : Int32 → Mem → Prop} (hR : RX σ 12 A) (hQ : Q (aHeir A a b) σ) : wp_X5_heir a b σ Q := by
  have w := hR.1.1
  unfold wp_X5_heir
  unfold aHeir at hQ
  refine x_isHeir hR.2.1 (fun h => b01 ?_) (fun h => b11 ?_)
  · rw [cs_f (fun q => h q.1)] at hQ; exact hQ
  · refine x_wi (fun h5 => b00 ?_) (fun h5 => b10 ?_)
    · rw [cs_f (fun q => h5 q.2)] at hQ; exact hQ
    · rw [cs_t ⟨h, h5⟩] at hQ
      obtain ⟨j, hj, rfl⟩ := hc_of w h
      obtain ⟨v, hv, rfl⟩ := wc_of (n := 5) rfl (by omega) h5
      rw [nI_clamp (show j < 2 ^ 31 by omega), nI_clamp (show v < 2 ^ 31 by omega)] at hQ
      refine pk_le 4 v (fun q => ?_) (fun q => ?_)
      · rw [cs_f (by omega)] at hQ
        refine ⟨fun z => ?_, fun z => ?_⟩
        · rw [cs_f (fun e => z (by rw [e]; rfl))] at hQ
          exact x_placeA hR hj hQ
        · have e4 : v = 4 := (nI_eq (by omega) (by omega)).mp z
          rw [cs_t e4] at hQ
          exact x_height hR hj hQ
      · rw [cs_t q] at hQ
        refine ⟨pk_in v 4 q, pk_in j 6 (by omega), ?_⟩
        rw [nI_clamp (show j < 2 ^ 31 by omega), nI_clamp (show v < 2 ^ 31 by omega), Nat.one_mul, hR.2.2.1 j v hj q]
        exact hQ
theorem m_heirA {a b : Int32} {σ : Mem} {A : Nat → Nat} {Q : Int32 → Mem → Prop} (hR : Rl (σ.1 65) A) (hQ : ∀ τ : Mem, KM σ τ → Q (aHeir A a b) τ) : wp_X6_heir a b σ Q := by
  have w := hR.1.1
  unfold wp_X6_heir
  unfold aHeir at hQ
  refine m_heir hR.2.1 (fun h => b01 ?_) (fun h => b11 ?_)
  · have hQ := hQ σ KM.rf
    rw [cs_f (fun q => h q.1)] at hQ; exact hQ
  · refine m_wi 0 5 rfl rfl (fun h5 => b00 ?_) (fun h5 => b10 ?_)
    · have hQ := hQ σ KM.rf
      rw [cs_f (fun q => h5 q.2)] at hQ; exact hQ
    · refine m_try hR (fun τ t1 _ t2 => ?_)
      have hQ := hQ τ t2
      rw [cs_t ⟨h, h5⟩] at hQ
      obtain ⟨j, hj, rfl⟩ := hc_of w h
      obtain ⟨v, hv, rfl⟩ := wc_of (n := 5) rfl (by omega) h5
      rw [nI_clamp (show j < 2 ^ 31 by omega), nI_clamp (show v < 2 ^ 31 by omega)] at hQ
      refine pk_le 4 v (fun q => ?_) (fun q => ?_)
      · rw [cs_f (by omega)] at hQ
        refine ⟨fun z => ?_, fun z => ?_⟩
        · rw [cs_f (fun e => z (by rw [e]; rfl))] at hQ
          exact m_placeA t1 hj hQ
        · have e4 : v = 4 := (nI_eq (by omega) (by omega)).mp z
          rw [cs_t e4] at hQ
          exact m_height t1 hj hQ
      · rw [cs_t q] at hQ
        refine m_of (by omega) ?_
        rw [t1.2.2.1 j v hj q]
        exact hQ
/-! runs -/
noncomputable def ffA (A : Nat → Nat) : Nat → Int32
  | 0 => -4
  | n + 1 => cs (ffA A n = -4 ∧ fellA (itA n A) false = true) (nI (n + 1)) (ffA A n)
noncomputable def kgA (A : Nat → Nat) : Nat → Int32
  | 0 => -4
  | n + 1 => nI (itA n A 26)
noncomputable def vRuns (A : Nat → Nat) (n : Nat) (b : Int32) : Int32 := cs (b = 0) (nI (itA n A 32)) (cs (b = 1) (nI (itA n A 34) - nI (A 34)) (cs (b = 2) (nI (itA n A 35) - nI (A 35)) (cs (b = 3) (ffA A n) (kgA A n))))
noncomputable def aRuns (A : Nat → Nat) (a b : Int32) : Int32 := ans (wc 0 60 a ∧ wc 0 4 b) A (vRuns A a.toNatClampNeg b)
theorem x_runs {a b : Int32} {σ : Mem} {A : Nat → Nat} {Q : Int32 → Mem → Prop} (hR : RX σ 12 A) (hQ : ∀ τ : Mem, KX σ τ → Q (aRuns A a b) τ) : wp_X5_runs a b σ Q := by
  have w := hR.1.1
  intro P21 P22 P50 P85 h21 h22 h50 h85
  have bad : ¬ (wc 0 60 a ∧ wc 0 4 b) → P21 σ := fun hn => by
    refine h21 _ (h22 _ _ ?_)
    refine x_ref hR (fun _ => ?_) (fun q => absurd rfl q) (fun q => absurd rfl q)
    have := hQ σ KX.rf
    rw [show aRuns A a b = -1 from ans_bad hn] at this
    exact this
  refine x_isAhead (fun h => b01 (bad (fun q => h q.1))) (fun ha => b11 ?_)
  refine x_wi (fun h => b01 (bad (fun q => h q.2))) (fun hb => b11 ?_)
  apply h22
  refine x_ref hR (fun q => absurd q (by decide)) (fun _ q => ?_) (fun _ h2 => ?_)
  · have := hQ σ KX.rf
    rw [show aRuns A a b = -2 from ans_two ⟨ha, hb⟩ q] at this
    exact this
  obtain ⟨n, hn, rfl⟩ := wc_of (n := 60) rfl (by omega) ha
  have hQ' : ∀ τ : Mem, KX σ τ → Q (vRuns A n b) τ := fun τ t => by
    have := hQ τ t
    rw [show aRuns A (nI n) b = vRuns A (nI n).toNatClampNeg b from ans_yes ⟨ha, hb⟩ h2, nI_clamp (by omega)] at this
    exact this
  have key : ∀ m j : Nat, ∀ τ : Mem, j + m = n → RX τ 19 (itA j A) → τ.1 19 8 = kgA A j → KX σ τ → P50 (ffA A j) (nI (j + 1)) τ := by
    intro m
    induction m with
    | zero =>
      intro j τ hj g1 g8 g4
      apply h50
      refine pk_lt n (j + 1) (fun _ => ?_) (fun q => by omega)
      rw [show j = n by omega] at g1 g8 ⊢
      have e32 := g1.2.2.2.2 32 (by omega) (by omega)
      have e34 := g1.2.2.2.2 34 (by omega) (by omega)
      have e35 := g1.2.2.2.2 35 (by omega) (by omega)
      have f34 := (hR.now g4).2.2.2.2 34 (by omega) (by omega)
      have f35 := (hR.now g4).2.2.2.2 35 (by omega) (by omega)
      simp only [Nat.reduceSub] at e32 e34 e35 f34 f35
      rw [e32, e34, e35, f34, f35, g8]
      have := hQ' τ g4
      unfold vRuns at this
      refine ⟨fun h => ?_, fun h => ?_, fun h => ?_, fun h => ?_, fun h0 h1 h2 h3 => ?_⟩
      · rw [cs_t h] at this; exact this
      · subst h; rw [cs_f (by decide), cs_t rfl] at this; exact this
      · subst h; rw [cs_f (by decide), cs_f (by decide), cs_t rfl] at this; exact this
      · subst h; rw [cs_f (by decide), cs_f (by decide), cs_f (by decide), cs_t rfl] at this; exact this
      · rw [cs_f h0, cs_f h1, cs_f h2, cs_f h3] at this; exact this
    | succ m ih =>
      intro j τ hj g1 g8 g4
      apply h50
      refine pk_lt n (j + 1) (fun q => by omega) (fun _ => ?_)
      refine x_crown0 g1 (by rw [(it_wf hR.1 h2 j).2]; exact h2) (fun υ u1 u8 _ u10 _ _ u2 u3 => ?_)
      have k := g4.tr (KX.of u2 u3)
      have go : ∀ x : Int32, x = ffA A (j + 1) → P85 x (nI (j + 1)) υ := by
        rintro _ rfl
        refine h85 _ _ _ ?_
        rintro _ rfl
        rw [nI_1]
        exact ih (j + 1) υ (by omega) u1 u8 k
      rw [u10]
      unfold bI
      cases hf : fellA (itA j A) false
      · refine ⟨fun _ => go _ ?_, fun z => absurd z (by decide)⟩
        exact (cs_f (fun q => by rw [hf] at q; exact absurd q.2 (by decide))).symm
      · refine ⟨fun z => absurd rfl z, fun _ => ⟨fun z => go _ ?_, fun z => go _ ?_⟩⟩
        · exact (cs_f (fun q => z q.1)).symm
        · exact (cs_t ⟨z, hf⟩).symm
  exact x_try hR (fun τ t1 t8 t2 => key n 0 τ (by omega) t1 t8 t2)
theorem m_runs {a b : Int32} {σ : Mem} {A : Nat → Nat} {Q : Int32 → Mem → Prop} (hR : Rl (σ.1 65) A) (hQ : ∀ τ : Mem, KM σ τ → Q (aRuns A a b) τ) : wp_X6_runs a b σ Q := by
  have w := hR.1.1
  intro P47 P76 P77 h47 h76 h77
  simp only [tc32, tc34, tc35] at h47
  refine m_far (fun h => b01 ?_) (fun ha => b11 ?_)
  · have := hQ σ KM.rf
    rw [show aRuns A a b = -1 from ans_bad (fun q => h q.1)] at this
    exact this
  refine m_wi 0 4 rfl rfl (fun h => b00 ?_) (fun hb => b10 ?_)
  · have := hQ σ KM.rf
    rw [show aRuns A a b = -1 from ans_bad (fun q => h q.2)] at this
    exact this
  refine m_twoR hR (fun q => b00 ?_) (fun h2 => b10 ?_)
  · have := hQ σ KM.rf
    rw [show aRuns A a b = -2 from ans_two ⟨ha, hb⟩ q] at this
    exact this
  obtain ⟨n, hn, rfl⟩ := wc_of (n := 60) rfl (by omega) ha
  have hQ' : ∀ τ : Mem, KM σ τ → Q (vRuns A n b) τ := fun τ t => by
    have := hQ τ t
    rw [show aRuns A (nI n) b = vRuns A (nI n).toNatClampNeg b from ans_yes ⟨ha, hb⟩ h2, nI_clamp (by omega)] at this
    exact this
  have key : ∀ m j : Nat, ∀ τ : Mem, j + m = n → Rl (τ.1 66) (itA j A) → τ.1 64 17 = kgA A j → KM σ τ → P47 (ffA A j) (nI (j + 1)) τ := by
    intro m
    induction m with
    | zero =>
      intro j τ hj g1 g8 g4
      apply h47
      refine pk_lt n (j + 1) (fun _ => ?_) (fun q => by omega)
      rw [show j = n by omega] at g1 g8 ⊢
      have e32 := g1.2.2.2.2 32 (by omega) (by omega)
      have e34 := g1.2.2.2.2 34 (by omega) (by omega)
      have e35 := g1.2.2.2.2 35 (by omega) (by omega)
      have f34 := (hR.now g4).2.2.2.2 34 (by omega) (by omega)
      have f35 := (hR.now g4).2.2.2.2 35 (by omega) (by omega)
      rw [e32, e34, e35, f34, f35, g8]
      have := hQ' τ g4
      unfold vRuns at this
      refine ⟨fun h => ?_, fun h => ?_, fun h => ?_, fun h => ?_, fun h0 h1 h2 h3 => ?_⟩
      · rw [cs_t h] at this; exact this
      · subst h; rw [cs_f (by decide), cs_t rfl] at this; exact this
      · subst h; rw [cs_f (by decide), cs_f (by decide), cs_t rfl] at this; exact this
      · subst h; rw [cs_f (by decide), cs_f (by decide), cs_f (by decide), cs_t rfl] at this; exact this
      · rw [cs_f h0, cs_f h1, cs_f h2, cs_f h3] at this; exact this
    | succ m ih =>
      intro j τ hj g1 g8 g4
      apply h47
      refine pk_lt n (j + 1) (fun q => by omega) (fun _ => ?_)
      refine m_reign0 g1 (by rw [(it_wf hR.1 h2 j).2]; exact h2) (fun υ u1 u8 _ u10 u2 => ?_)
      have k := g4.tr u2.km
      have go : ∀ x : Int32, x = ffA A (j + 1) → P77 (nI (j + 1)) x υ := by
        rintro _ rfl
        refine h77 _ _ _ ?_
        rintro _ rfl
        rw [nI_1]
        exact ih (j + 1) υ (by omega) u1 u8 k
      rw [u10]
      unfold bI
      cases hf : fellA (itA j A) false
      · refine ⟨fun _ => h76 _ _ _ (go _ ?_), fun z => absurd rfl z⟩
        exact (cs_f (fun q => by rw [hf] at q; exact absurd q.2 (by decide))).symm
      · refine ⟨fun z => absurd z (by decide), fun _ => ⟨fun z => h76 _ _ _ (go _ ?_), fun z => go _ ?_⟩⟩
        · exact (cs_f (fun q => z q.1)).symm
        · exact (cs_t ⟨z, hf⟩).symm
  refine m_try hR (fun τ t1 _ t2 => ?_)
  rintro _ rfl
  refine key n 0 _ (by omega) (t1.fr (fun k _ => mm1 (by omega))) mm3 (t2.tr ?_)
  intro a b p1 _ _ _ _ p6
  rw [st1_get, if_neg (by omega)]
