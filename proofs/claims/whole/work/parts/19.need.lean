/-! need -/
theorem hgt_setS {A : Nat → Nat} {g v h : Nat} : hgt (setA A (4 * g + 1) v) h = hgt A h := by
  unfold hgt
  rw [setA_ne (by omega), setA_ne (by omega)]
theorem fell_setS {A : Nat → Nat} {g v : Nat} (hg : ¬ A 26 = g) (w : A 24 ≤ 6) (hA : A 26 < A 24) (hg2 : g < A 24) : fellA (setA A (4 * g + 1) v) false = fellA A false := by
  unfold fellA
  have e26 : setA A (4 * g + 1) v 26 = A 26 := setA_ne (by omega)
  have e25 : setA A (4 * g + 1) v 25 = A 25 := setA_ne (by omega)
  rw [e26, e25, hgt_setS, setA_ne (by omega), setA_ne (by omega)]
theorem span_setS {A : Nat → Nat} {g v : Nat} (hg : ¬ A 26 = g) (w : A 24 ≤ 6) (hA : A 26 < A 24) (hg2 : g < A 24) : spanA (setA A (4 * g + 1) v) false = spanA A false := by
  unfold spanA
  rw [fell_setS hg w hA hg2]
  have e26 : setA A (4 * g + 1) v 26 = A 26 := setA_ne (by omega)
  rw [e26, setA_ne (by omega)]
theorem cnt_setS {A : Nat → Nat} {g v : Nat} (hg : ¬ A 26 = g) (w : A 24 ≤ 6) (hA : A 26 < A 24) (hg2 : g < A 24) : cntA (setA A (4 * g + 1) v) false = setA (cntA A false) (4 * g + 1) v := by
  funext k
  by_cases h : k = 4 * g + 1
  · subst h
    rw [cntA_lo (by omega), setA_eq, setA_eq]
  · rw [setA_ne h]
    unfold cntA
    rw [fell_setS hg w hA hg2, span_setS hg w hA hg2]
    rw [show setA A (4 * g + 1) v 33 = A 33 from setA_ne (by omega), show setA A (4 * g + 1) v 34 = A 34 from setA_ne (by omega), show setA A (4 * g + 1) v 35 = A 35 from setA_ne (by omega), show setA A (4 * g + 1) v 32 = A 32 from setA_ne (by omega), setA_ne h]
theorem bhd_setS {A : Nat → Nat} {g v p : Nat} (w : A 24 ≤ 6) (h0 : 0 < A 24) (hg2 : g < A 24) : bhd (setA A (4 * g + 1) v) p = setA (bhd A p) (4 * g + 1) v := by
  funext k
  have e24 : setA A (4 * g + 1) v 24 = A 24 := setA_ne (by omega)
  by_cases h : k = 4 * g + 1
  · subst h
    rw [setA_eq, bhd_lo (by rw [e24]; exact h0) (by omega), setA_eq]
  · rw [setA_ne h]
    unfold bhd
    rw [e24]
    by_cases h1 : 25 + p ≤ k ∧ k + 1 < 25 + A 24
    · rw [if_pos h1, if_pos h1, setA_ne (by omega)]
    · rw [if_neg h1, if_neg h1]
      by_cases h2 : k + 1 = 25 + A 24
      · rw [if_pos h2, if_pos h2, setA_ne (by omega)]
      · rw [if_neg h2, if_neg h2, setA_ne h]
theorem cr_setS {A : Nat → Nat} {g v : Nat} (W : WF A) (h2 : 2 ≤ A 24) (hg : ¬ A 26 = g) (hg2 : g < A 24) (hv : v ≤ 20) : crA (setA A (4 * g + 1) v) false = setA (crA A false) (4 * g + 1) v := by
  have w := W.1
  have hA := W.2.2.1 1 (by omega)
  simp only [Nat.reduceAdd] at hA
  have W' := W.set (w := 1) (v := v) hg2 (by unfold okT; omega)
  have e24 : setA A (4 * g + 1) v 24 = A 24 := setA_ne (by omega)
  have e26 : setA A (4 * g + 1) v 26 = A 26 := setA_ne (by omega)
  have c24 : cntA A false 24 = A 24 := cntA_lo (by omega)
  cases hf : fellA A false
  · rw [crA_clean (by rw [fell_setS hg w hA hg2]; exact hf), crA_clean hf, cnt_setS hg w hA hg2, bhd_setS (by omega) (by omega) (by omega), bhd_setS (by rw [bhd_n (by omega)]; omega) (by rw [bhd_n (by omega)]; omega) (by rw [bhd_n (by omega)]; omega)]
  · rw [crA_fell W' (by omega) (by rw [fell_setS hg w hA hg2]; exact hf), crA_fell W h2 hf, cnt_setS hg w hA hg2, bhd_setS (by omega) (by omega) (by omega), e26, setA_ne (by omega)]
    funext k
    unfold setA
    by_cases h1 : k = 4 * A 26 + 1
    · rw [if_pos h1, if_neg (by omega), if_pos h1]
    · rw [if_neg h1]
      by_cases h3 : k = 4 * g + 1
      · rw [if_pos h3, if_pos h3]
      · rw [if_neg h3, if_neg h3, if_neg h1]
/-- at the first reign of g the machine stands so -/
noncomputable def fsA (g : Nat) : Nat → (Nat → Nat) → Option (Nat → Nat)
  | 0, _ => none
  | m + 1, A => cs (A 26 = g) (some A) (fsA g m (crA A false))
noncomputable def vNeed (A : Nat → Nat) (g : Nat) : Int32 := match fsA g 60 A with
  | none => -4
  | some B => cs (hgt B (B 25) + B 31 ≤ 20) (nI (hgt B (B 25) + B 31)) (-4)
noncomputable def aNeed (A : Nat → Nat) (a : Int32) : Int32 := ans (hc A a) A (vNeed A a.toNatClampNeg)
/-- the search, told by its steps -/
theorem fs_spec {g : Nat} : ∀ (m j : Nat) (A : Nat → Nat), WF A → 2 ≤ A 24 → j + m < 2 ^ 31 → (fsA g m A = none ∧ fstA g m j A = -4 ∧ ∀ i, i < m → ¬ itA i A 26 = g) ∨ (∃ i, i < m ∧ fsA g m A = some (itA i A) ∧ fstA g m j A = nI (j + i) ∧ itA i A 26 = g ∧ ∀ k, k < i → ¬ itA k A 26 = g) := by
  intro m
  induction m with
  | zero => intro j A _ _ _; exact Or.inl ⟨rfl, rfl, fun i hi => by omega⟩
  | succ m ih =>
    intro j A W h2 hj
    have e0 : itA 1 A = crA A false := rfl
    have sh : ∀ i, itA i (crA A false) = itA (i + 1) A := fun i => by rw [← e0, it_app, Nat.add_comm]
    by_cases h : A 26 = g
    · exact Or.inr ⟨0, by omega, cs_t h, cs_t h, h, fun k hk => by omega⟩
    · rcases ih (j + 1) (crA A false) (W.cr h2) (by rw [crA_n W h2]; exact h2) (by omega) with ⟨q1, q2, q3⟩ | ⟨i, q0, q1, q2, q3, q4⟩
      · refine Or.inl ⟨(cs_f h).trans q1, (cs_f h).trans q2, fun i hi => ?_⟩
        cases i with
        | zero => exact h
        | succ i => rw [← sh]; exact q3 i (by omega)
      · refine Or.inr ⟨i + 1, by omega, ?_, ?_, ?_, fun k hk => ?_⟩
        · rw [← sh]; exact (cs_f h).trans q1
        · rw [show j + (i + 1) = j + 1 + i by omega]; exact (cs_f h).trans q2
        · rw [← sh]; exact q3
        · cases k with
          | zero => exact h
          | succ k => rw [← sh]; exact q4 k (by omega)
theorem it_setS {A : Nat → Nat} {g v : Nat} (W : WF A) (h2 : 2 ≤ A 24) (hg2 : g < A 24) (hv : v ≤ 20) : ∀ j : Nat, (∀ k, k < j → ¬ itA k A 26 = g) → itA j (setA A (4 * g + 1) v) = setA (itA j A) (4 * g + 1) v := by
  intro j
  induction j with
  | zero => intro _; rfl
  | succ j ih =>
    intro h
    show crA (itA j (setA A (4 * g + 1) v)) false = setA (crA (itA j A) false) (4 * g + 1) v
    rw [ih (fun k hk => h k (by omega))]
    have wj := it_wf W h2 j
    exact cr_setS wj.1 (by omega) (h j (by omega)) (by omega) hv
theorem x_need {a : Int32} {σ : Mem} {A : Nat → Nat} {Q : Int32 → Mem → Prop} (hR : RX σ 12 A) (hQ : ∀ τ : Mem, KX σ τ → Q (aNeed A a) τ) : wp_X5_need a σ Q := by
  have w := hR.1.1
  unfold wp_X5_need
  refine x_isHeir hR.2.1 (fun h => ?_) (fun h => ?_)
  · refine x_ref hR (fun _ => ?_) (fun q => absurd rfl q) (fun q => absurd rfl q)
    have := hQ σ KX.rf
    rw [show aNeed A a = -1 from ans_bad h] at this
    exact this
  refine x_ref hR (fun q => absurd q (by decide)) (fun _ q => ?_) (fun _ h2 => ?_)
  · have := hQ σ KX.rf
    rw [show aNeed A a = -2 from ans_two h q] at this
    exact this
  obtain ⟨g, hg, rfl⟩ := hc_of w h
  have hQ' : ∀ τ : Mem, KX σ τ → Q (vNeed A g) τ := fun τ t => by
    have := hQ τ t
    rw [show aNeed A (nI g) = vNeed A (nI g).toNatClampNeg from ans_yes h h2, nI_clamp (by omega)] at this
    exact this
  refine x_first hR h2 hg (fun τ t => ?_)
  unfold vNeed at hQ'
  rcases fs_spec (g := g) 60 1 A hR.1 h2 (by omega) with ⟨q1, q2, q3⟩ | ⟨i, q0, q1, q2, q3, q4⟩
  · rw [q2]
    rw [q1] at hQ'
    exact ⟨fun z => absurd rfl z, fun _ => hQ' τ t⟩
  · rw [q2]
    rw [q1] at hQ'
    refine ⟨fun _ => ?_, fun z => absurd z (nI_m4 (by omega))⟩
    refine x_try (hR.now t) (fun υ u1 _ u2 => ?_)
    rw [nI_p1 (by omega), show 1 + i - 1 = i by omega]
    refine x_pass u1 h2 (by omega) (fun ψ p1 p2 p3 => ?_)
    have k : KX σ ψ := t.tr (u2.tr (KX.of p2 p3))
    have wi := it_wf hR.1 h2 i
    have w6 := wi.1.1
    have b0 := wi.1.2.2.1 0 (by omega)
    simp only [Nat.add_zero] at b0
    have e0 := p1.2.2.2.1 0 (by omega)
    simp only [Nat.add_zero] at e0
    rw [tc0, e0]
    refine x_height p1 b0 ?_
    rintro _ rfl
    have e31 := p1.2.2.2.2 31 (by omega) (by omega)
    simp only [Nat.reduceSub] at e31
    have hh := hgt_le wi.1 b0
    have hl := wi.1.2.2.2.2.2.1
    rw [e31, nI_add]
    have := hQ' ψ k
    refine pk_lt 20 (hgt (itA i A) (itA i A 25) + itA i A 31) (fun z => ?_) (fun z => ?_)
    · simp only [cs_f (show ¬ (hgt (itA i A) (itA i A 25) + itA i A 31 ≤ 20) by omega)] at this
      exact this
    · simp only [cs_t z] at this
      exact this
/-- the reference's first reign, with who fell -/
theorem m_firstF {g : Nat} {σ : Mem} {A : Nat → Nat} {Q : Int32 → Mem → Prop} (hR : Rl (σ.1 66) A) (h2 : 2 ≤ A 24) (hg : g < A 24)
    (h0 : fsA g 60 A = none → ∀ τ : Mem, KR σ τ → Q (-4) τ) (h1 : ∀ B j, fsA g 60 A = some B → j < 100 → ∀ τ : Mem, KR σ τ → τ.1 64 19 = bI (fellA B false) → Q (nI j) τ) : wp_X6_reignOf (nI g) σ Q := by
  intro P2 hP
  have key : ∀ m j : Nat, ∀ B : Nat → Nat, ∀ τ : Mem, j + m = 61 → Rl (τ.1 66) B → B 24 = A 24 → fsA g m B = fsA g 60 A → KR σ τ → P2 (nI j) τ := by
    intro m
    induction m with
    | zero =>
      intro j B τ hj g1 g2 g3 g4
      apply hP
      refine pk_lt 60 j (fun _ => h0 (by rw [← g3]; rfl) τ g4) (fun q => by omega)
    | succ m ih =>
      intro j B τ hj g1 g2 g3 g4
      apply hP
      refine pk_lt 60 j (fun q => by omega) (fun _ => ?_)
      have w1 := g1.1.1
      have w3 := g1.1.2.2.1 1 (by omega)
      simp only [Nat.reduceAdd] at w3
      refine m_reign0 g1 (by omega) (fun υ u1 u8 _ u19 u2 => ?_)
      rw [u8]
      refine ⟨fun q => ?_, fun q => ?_⟩
      · rintro _ rfl
        rw [nI_1]
        have hne : ¬ B 26 = g := fun e => q (by rw [e])
        refine ih (j + 1) _ υ (by omega) u1 (by rw [crA_n g1.1 (by omega), g2]) ?_ (g4.tr u2)
        rw [← g3]
        exact (cs_f hne).symm
      · have he : B 26 = g := (nI_eq (by omega) (by omega)).mp q
        refine h1 B j ?_ (by omega) υ (g4.tr u2) u19
        rw [← g3]
        exact cs_t he
  exact key 60 1 A σ (by omega) hR rfl rfl KR.rf
theorem m_need {a : Int32} {σ : Mem} {A : Nat → Nat} {Q : Int32 → Mem → Prop} (hR : Rl (σ.1 65) A) (hQ : ∀ τ : Mem, KM σ τ → Q (aNeed A a) τ) : wp_X6_need a σ Q := by
  have w := hR.1.1
  intro P22 P58 h22 h58
  refine m_heir hR.2.1 (fun h => b00 ?_) (fun h => b10 ?_)
  · have := hQ σ KM.rf
    rw [show aNeed A a = -1 from ans_bad h] at this
    exact this
  refine m_twoR hR (fun q => b00 ?_) (fun h2 => b10 ?_)
  · have := hQ σ KM.rf
    rw [show aNeed A a = -2 from ans_two h q] at this
    exact this
  obtain ⟨g, hg, rfl⟩ := hc_of w h
  have hQ' : ∀ τ : Mem, KM σ τ → Q (vNeed A g) τ := fun τ t => by
    have := hQ τ t
    rw [show aNeed A (nI g) = vNeed A (nI g).toNatClampNeg from ans_yes h h2, nI_clamp (by omega)] at this
    exact this
  have key : ∀ m v : Nat, ∀ τ : Mem, v + m = 21 → (∀ B, fsA g 60 A = some B → v ≤ hgt B (B 25) + B 31) → KM σ τ → P22 (nI v) τ := by
    intro m
    induction m with
    | zero =>
      intro v τ hv gB g4
      apply h22
      refine pk_lt 20 v (fun _ => ?_) (fun q => by omega)
      have := hQ' τ g4
      unfold vNeed at this
      cases hf : fsA g 60 A with
      | none => rw [hf] at this; exact this
      | some B =>
        rw [hf] at this
        have := this
        simp only [cs_f (show ¬ (hgt B (B 25) + B 31 ≤ 20) by have := gB B hf; omega)] at this
        exact this
    | succ m ih =>
      intro v τ hv gB g4
      apply h22
      refine pk_lt 20 v (fun q => by omega) (fun _ => ?_)
      refine m_try (hR.now g4) (fun υ u1 _ u2 => ?_)
      rw [show (1 : Int32) = nI 1 from rfl]
      refine m_becOf (by omega) ?_
      have hs := u1.setT (h := g) (w := 1) (v := v) hg (by unfold okT; omega)
      have e24 : setA A (4 * g + 1) v 24 = A 24 := setA_ne (by omega)
      have next : ∀ ψ : Mem, KM σ ψ → (∀ B, fsA g 60 A = some B → v + 1 ≤ hgt B (B 25) + B 31) → P58 (nI v) ψ := by
        intro ψ k hB
        refine h58 _ _ ?_
        rintro _ rfl
        rw [nI_1]
        exact ih (v + 1) ψ (by omega) hB k
      -- the same reign, with his spring as v
      have same : (fsA g 60 A = none ∧ fsA g 60 (setA A (4 * g + 1) v) = none) ∨ (∃ B, fsA g 60 A = some B ∧ fsA g 60 (setA A (4 * g + 1) v) = some (setA B (4 * g + 1) v) ∧ WF B ∧ B 24 = A 24 ∧ B 26 = g) := by
        have W' := hR.1.set (w := 1) (v := v) hg (by unfold okT; omega)
        have e26 : ∀ k, (∀ i, i < k → ¬ itA i A 26 = g) → itA k (setA A (4 * g + 1) v) 26 = itA k A 26 := fun k hk => by
          rw [it_setS hR.1 h2 hg (by omega) k hk, setA_ne (by omega)]
        rcases fs_spec (g := g) 60 1 A hR.1 h2 (by omega) with ⟨q1, -, q3⟩ | ⟨i, q0, q1, -, q3, q4⟩
        · rcases fs_spec (g := g) 60 1 (setA A (4 * g + 1) v) W' (by omega) (by omega) with ⟨r1, -, -⟩ | ⟨i, r0, r1, -, r3, r4⟩
          · exact Or.inl ⟨q1, r1⟩
          · rw [e26 i (fun k hk => q3 k (by omega))] at r3
            exact absurd r3 (q3 i r0)
        · rcases fs_spec (g := g) 60 1 (setA A (4 * g + 1) v) W' (by omega) (by omega) with ⟨r1, -, r3⟩ | ⟨j, r0, r1, -, r3, r4⟩
          · exact absurd (by rw [e26 i q4]; exact q3) (r3 i q0)
          · have hij : i = j := by
              rcases Nat.lt_trichotomy i j with h1 | h1 | h1
              · exact absurd (by rw [e26 i q4]; exact q3) (r4 i h1)
              · exact h1
              · rw [e26 j (fun k hk => q4 k (by omega))] at r3
                exact absurd r3 (q4 j h1)
            subst hij
            have wi := it_wf hR.1 h2 i
            exact Or.inr ⟨itA i A, q1, by rw [r1, it_setS hR.1 h2 hg (by omega) i q4], wi.1, wi.2, q3⟩
      rcases same with ⟨s1, s2⟩ | ⟨B, s1, s2, s3, s4, s5⟩
      · refine m_firstF hs (by omega) (by omega) (fun _ ψ p => ?_) (fun B j z => by rw [s2] at z; cases z)
        refine ⟨fun _ => next ψ ((g4.tr u2.st66).tr p.km) (fun B z => by rw [s1] at z; cases z), fun z => absurd rfl z⟩
      · refine m_firstF hs (by omega) (by omega) (fun z => by rw [s2] at z; cases z) (fun B' j z hj ψ p p19 => ?_)
        rw [s2] at z
        cases z
        have k : KM σ ψ := (g4.tr u2.st66).tr p.km
        refine ⟨fun z => absurd z (nI_m4 (by omega)), fun _ => ?_⟩
        have w6 := s3.1
        have b0 := s3.2.2.1 0 (by omega)
        simp only [Nat.add_zero] at b0
        have ef : fellA (setA B (4 * g + 1) v) false = decide (v < B 31 + hgt B (B 25)) := by
          unfold fellA
          rw [show setA B (4 * g + 1) v 26 = B 26 from setA_ne (by omega), show setA B (4 * g + 1) v 25 = B 25 from setA_ne (by omega), s5, setA_eq, hgt_setS, setA_ne (by omega)]
          simp
        rw [p19, ef]
        unfold bI
        by_cases hv2 : v < B 31 + hgt B (B 25)
        · refine ⟨fun _ => next ψ k (fun B' z => ?_), fun z => absurd z (by simp [hv2])⟩
          rw [s1] at z
          cases z
          omega
        · refine ⟨fun z => absurd (by simp [hv2]) z, fun _ => ?_⟩
          have := hQ' ψ k
          unfold vNeed at this
          rw [s1] at this
          have hB := gB B s1
          simp only [cs_t (show hgt B (B 25) + B 31 ≤ 20 by omega)] at this
          rw [show hgt B (B 25) + B 31 = v by omega] at this
          exact this
  exact key 21 0 σ (by omega) (fun B _ => by omega) KM.rf
