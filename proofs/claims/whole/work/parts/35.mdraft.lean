/-! the reference: drafts, the whole text -/
theorem m_draft {σ : Mem} {Q : Mem → Prop} (hQ : ∀ τ : Mem, PM τ S0 → (∀ a b, a ≠ 68 → ¬ (a = 64 ∧ 4 ≤ b ∧ b ≤ 8) → τ.1 a b = σ.1 a b) → Q τ) : wp_X6_firstDraft σ Q := by
  intro P2 h2
  have key : ∀ (m j : Nat) (τ : Mem), j + m = 49 → (∀ y, y < j → τ.1 68 y = 0) → (∀ a b, a ≠ 68 → τ.1 a b = σ.1 a b) → P2 (nI j) τ := by
    intro m
    induction m with
    | zero =>
      intro j τ hj g1 g2
      apply h2
      refine pk_le 49 j (fun _ => ?_) (fun q => by omega)
      rintro _ rfl _ rfl _ rfl _ rfl
      have rd : ∀ y, y < 49 → (st1 (st1 (st1 (st1 τ 64 4 0) 64 5 0) 64 6 0) 64 8 (-4)).1 68 y = 0 := fun y hy => by
        rw [mm1 (by omega), mm1 (by omega), mm1 (by omega), mm1 (by omega)]
        exact g1 y (by omega)
      refine hQ _ ⟨rd 24 (by omega), fun h w hh => absurd hh (Nat.not_lt_zero h), rd 31 (by omega), rd 32 (by omega), fun k a b => rd k (by omega), ?_, ?_, ?_, fun i hi => absurd hi (Nat.not_lt_zero i), Or.inl ⟨rfl, mm3⟩⟩ (fun a b q1 q2 => ?_)
      · rw [mm2 (by omega), mm2 (by omega), mm2 (by omega), mm3]; rfl
      · rw [mm2 (by omega), mm2 (by omega), mm3]; rfl
      · rw [mm2 (by omega), mm3]; rfl
      · rw [st1_get, if_neg (by omega), st1_get, if_neg (by omega), st1_get, if_neg (by omega), st1_get, if_neg (by omega)]
        exact g2 a b q1
    | succ m ih =>
      intro j τ hj g1 g2
      apply h2
      refine pk_le 49 j (fun q => by omega) (fun _ => ⟨pk_in j 49 (by omega), ?_⟩)
      rintro _ rfl _ rfl
      rw [nI_clamp (show j < 2 ^ 31 by omega), nI_1]
      refine ih (j + 1) _ (by omega) (fun y hy => ?_) (fun a b q => by rw [mm1 q]; exact g2 a b q)
      by_cases e : y = j
      · rw [e]; exact mm3
      · rw [mm2 e]; exact g1 y (by omega)
  exact key 49 0 σ (by omega) (fun y hy => by omega) (fun _ _ _ => rfl)
theorem m_keepD {σ : Mem} {S : PS} {Q : Mem → Prop} (hS : PM σ S) (hI : PI S) (hf : fits6 S)
    (hQ : ∀ τ : Mem, Rl (τ.1 65) (finA S) → τ.1 65 36 = 0 → (∀ j, 49 ≤ j → τ.1 65 j = σ.1 65 j) → τ.1 67 0 = 0 → τ.1 67 1 = 0 → (∀ a b, a ≠ 65 → a ≠ 67 → τ.1 a b = σ.1 a b) → Q τ) : wp_X6_keepDraft σ Q := by
  obtain ⟨d1, d2, d3, d4, d5, d6, d7, d8, d9, d10⟩ := hS
  have hp := fit_pow hI hf
  have hw := fin_wf hI hf
  obtain ⟨i1, i2, i3, i4, i5, i6, i7, i8⟩ := hI
  have w6 := i7.1
  have pl := popc_le (pp S)
  obtain ⟨z1, z2, z3⟩ := zr_ok (pA S 24) (by omega) (pp S) i1 hp
  intro P2 P28 P64 P99 h2 h28 h64 h99
  have e24 : finA S 24 = pA S 24 := finA_o (by omega)
  have rest : ∀ (m h : Nat) (τ : Mem), h + m = pA S 24 → (∀ i, i < pc S → τ.1 65 (25 + i) = nI (pf S i)) → (∀ q, q < h → pp S / 2 ^ q % 2 = 0 → τ.1 65 (25 + (pc S + zc (pp S) q)) = nI q) → (∀ k, k < 49 → ¬ (25 ≤ k ∧ k < 31) → τ.1 65 k = σ.1 68 k) → (∀ j, 49 ≤ j → τ.1 65 j = σ.1 65 j) → (∀ a b, a ≠ 65 → τ.1 a b = σ.1 a b) → P64 (nI (pc S + zc (pp S) h)) (nI h) τ := by
    intro m
    induction m with
    | zero =>
      intro h τ hh k1 k2 k3 k4 k5
      apply h64
      rw [tc24, k3 24 (by omega) (by omega), d1]
      refine pk_le (pA S 24) h (fun _ => ?_) (fun q => by omega) rfl rfl (by omega) (by omega)
      rintro _ rfl _ rfl
      refine hQ _ (Rl.fr (g := τ.1 65) ⟨hw, ?_, fun a w ha hw => ?_, fun i hi => ?_, fun k a b => ?_⟩ (fun k _ => by rw [mm1 (by omega), mm1 (by omega)])) ?_ (fun j hj => by rw [mm1 (by omega), mm1 (by omega)]; exact k4 j hj) ?_ ?_ (fun a b q1 q2 => by rw [mm1 q2, mm1 q2]; exact k5 a b q1)
      · rw [k3 24 (by omega) (by omega), e24]; exact d1
      · rw [e24] at ha
        rw [k3 _ (by omega) (by omega), finA_o (by omega)]
        exact d2 a w ha hw
      · rw [e24] at hi
        rw [finA_l (by omega)]
        unfold rowA
        by_cases y : i < pc S
        · rw [if_pos y]; exact k1 i y
        · rw [if_neg y]
          obtain ⟨a, b, c⟩ := z2 (i - pc S) (by omega) (by omega)
          have := k2 (zr (pp S) (i - pc S)) (by omega) b
          rw [c, show pc S + (i - pc S) = i by omega] at this
          exact this
      · rw [k3 k (by omega) (by omega), finA_o (by omega)]
        rcases (show k = 31 ∨ k = 32 ∨ 33 ≤ k by omega) with rfl | rfl | y
        · exact d3
        · exact d4
        · rw [d5 k y (by omega), i8 k y (by omega)]; rfl
      · rw [mm1 (by omega), mm1 (by omega), k3 36 (by omega) (by omega)]
        exact d5 36 (by omega) (by omega)
      · rw [show ((0 : Int32)).toNatClampNeg = 0 from rfl, show ((1 : Int32)).toNatClampNeg = 1 from rfl, mm2 (by omega), mm3]; rfl
      · rw [show ((1 : Int32)).toNatClampNeg = 1 from rfl, mm3]; rfl
    | succ m ih =>
      intro h τ hh k1 k2 k3 k4 k5
      apply h64
      rw [tc24, k3 24 (by omega) (by omega), d1, k5 64 5 (by omega), d7, bit0_ok (pp S) i1 h (by omega)]
      refine pk_le (pA S 24) h (fun q => by omega) (fun _ => ⟨fun z => ?_, fun z => ?_⟩) rfl rfl (by omega) (by omega)
      · apply h99
        rintro _ rfl
        rw [nI_1]
        have e : zc (pp S) (h + 1) = zc (pp S) h := by
          show zc (pp S) h + (if pp S / 2 ^ h % 2 = 0 then 1 else 0) = _
          rw [if_neg z]; omega
        have := ih (h + 1) τ (by omega) k1 (fun q hq hb => by
          by_cases y : q = h
          · rw [y] at hb; exact absurd hb z
          · exact k2 q (by omega) hb) k3 k4 k5
        rw [e] at this
        exact this
      · have hlt := (z3 h (by omega) z).2
        have e : zc (pp S) (h + 1) = zc (pp S) h + 1 := by
          show zc (pp S) h + (if pp S / 2 ^ h % 2 = 0 then 1 else 0) = _
          rw [if_pos z]
        rw [show (25 : Int32) = nI 25 from rfl, nI_add, nI_clamp (show 25 + (pc S + zc (pp S) h) < 2 ^ 31 by omega), nI_1]
        refine ⟨pk_in (25 + (pc S + zc (pp S) h)) 147 (by omega), ?_⟩
        rintro _ rfl _ rfl
        apply h99
        rintro _ rfl
        rw [nI_1]
        have := ih (h + 1) (st1 τ 65 (25 + (pc S + zc (pp S) h)) (nI h)) (by omega) (fun i hi => by rw [mm2 (by omega)]; exact k1 i hi) (fun q hq hb => by
          by_cases y : q = h
          · rw [y]; exact mm3
          · have hq2 := z3 q (by omega) hb
            have hh2 := z3 h (by omega) z
            have ne : 25 + (pc S + zc (pp S) q) ≠ 25 + (pc S + zc (pp S) h) := by
              intro c
              have c' : zc (pp S) q = zc (pp S) h := by omega
              rw [c', hh2.1] at hq2
              omega
            rw [mm2 ne]
            exact k2 q (by omega) hb) (fun k a b => by rw [mm2 (by omega)]; exact k3 k a b) (fun j hj => by rw [mm2 (by omega)]; exact k4 j hj) (fun a b q => by rw [mm1 q]; exact k5 a b q)
        rw [e] at this
        exact this
  have front : ∀ (m i : Nat) (τ : Mem), i + m = pc S → (∀ j, j < i → τ.1 65 (25 + j) = nI (pf S j)) → (∀ k, k < 49 → ¬ (25 ≤ k ∧ k < 31) → τ.1 65 k = σ.1 68 k) → (∀ j, 49 ≤ j → τ.1 65 j = σ.1 65 j) → (∀ a b, a ≠ 65 → τ.1 a b = σ.1 a b) → P28 (nI i) τ := by
    intro m
    induction m with
    | zero =>
      intro i τ hi k1 k2 k3 k4
      apply h28
      rw [k4 64 6 (by omega), d8]
      refine pk_le (pc S) i (fun _ => ?_) (fun q => by omega) rfl rfl (by omega) (by omega)
      rintro _ rfl
      exact rest (pA S 24) 0 τ (by omega) (fun j hj => k1 j (by omega)) (fun q hq => absurd hq (Nat.not_lt_zero q)) k2 k3 k4
    | succ m ih =>
      intro i τ hi k1 k2 k3 k4
      apply h28
      rw [k4 64 6 (by omega), d8, nI_clamp (show i < 2 ^ 31 by omega), k4 69 i (by omega), d9 i (by omega), show (25 : Int32) = nI 25 from rfl, nI_add, nI_clamp (show 25 + i < 2 ^ 31 by omega)]
      refine pk_le (pc S) i (fun q => by omega) (fun _ => ⟨pk_in i 6 (by omega), pk_in (25 + i) 147 (by omega), ?_⟩) rfl rfl (by omega) (by omega)
      rintro _ rfl _ rfl
      rw [nI_1]
      refine ih (i + 1) _ (by omega) (fun j hj => ?_) (fun k a b => by rw [mm2 (by omega)]; exact k2 k a b) (fun j hj => by rw [mm2 (by omega)]; exact k3 j hj) (fun a b q => by rw [mm1 q]; exact k4 a b q)
      by_cases y : j = i
      · rw [y]; exact mm3
      · rw [mm2 (by omega)]; exact k1 j (by omega)
  have copyD : ∀ (m j : Nat) (τ : Mem), j + m = 49 → (∀ k, k < j → τ.1 65 k = σ.1 68 k) → (∀ j, 49 ≤ j → τ.1 65 j = σ.1 65 j) → (∀ a b, a ≠ 65 → τ.1 a b = σ.1 a b) → P2 (nI j) τ := by
    intro m
    induction m with
    | zero =>
      intro j τ hj k1 k2 k3
      apply h2
      refine pk_le 49 j (fun _ => ?_) (fun q => by omega)
      exact front (pc S) 0 τ (by omega) (fun j hj => absurd hj (Nat.not_lt_zero j)) (fun k hk _ => k1 k (by omega)) k2 k3
    | succ m ih =>
      intro j τ hj k1 k2 k3
      apply h2
      refine pk_le 49 j (fun q => by omega) (fun _ => ⟨pk_in j 49 (by omega), pk_in j 147 (by omega), ?_⟩)
      rintro _ rfl _ rfl
      rw [nI_clamp (show j < 2 ^ 31 by omega), nI_1]
      refine ih (j + 1) _ (by omega) (fun k hk => ?_) (fun j hj => by rw [mm2 (by omega)]; exact k2 j hj) (fun a b q => by rw [mm1 q]; exact k3 a b q)
      by_cases y : k = j
      · rw [y, mm3]; exact k3 68 j (by omega)
      · rw [mm2 y]; exact k1 k (by omega)
  exact copyD 49 0 σ (by omega) (fun k hk => absurd hk (Nat.not_lt_zero k)) (fun _ _ => rfl) (fun _ _ _ => rfl)
theorem m_text {σ : Mem} {T : Nat} {t : Nat → Nat} {Q : Int32 → Mem → Prop} (hT : TM σ T t)
    (h0 : ∀ e : ER, finE t T = .error e → ∀ τ : Mem, τ.1 64 15 = nI e.1 → τ.1 64 10 = 0 → (∀ a b, a ≠ 68 → a ≠ 69 → ¬ (a = 64 ∧ 4 ≤ b ∧ b ≤ 16) → τ.1 a b = σ.1 a b) → Q (-10 - nI e.2) τ)
    (h1 : ∀ (S : PS) (l : Nat), finE t T = .ok (S, l) → ∀ τ : Mem, Rl (τ.1 65) (finA S) → τ.1 65 36 = 0 → (∀ j, 49 ≤ j → τ.1 65 j = σ.1 65 j) → τ.1 67 0 = 0 → τ.1 67 1 = 0 → τ.1 64 15 = 0 → τ.1 64 10 = 0 → (∀ a b, a ≠ 65 → a ≠ 67 → a ≠ 68 → a ≠ 69 → ¬ (a = 64 ∧ 4 ≤ b ∧ b ≤ 16) → τ.1 a b = σ.1 a b) → Q (nI l) τ) : wp_X6_text σ Q := by
  have T6 := hT.1
  intro P20 P44 P71 P76 h20 h44 h71 h76
  unfold finE at h0 h1
  obtain ⟨W0, hW⟩ : ∃ W0, allE t T (T + 1) S0 0 0 = W0 := ⟨_, rfl⟩
  rw [hW] at h0 h1
  have lost : ∀ (e : ER) (x : Int32) (τ : Mem), (match W0 with | .error e => (.error e : Except ER (PS × Nat)) | .ok r => cs (fits6 r.1) (.ok r) (.error (6, T))) = .error e → CE τ e → FMk σ τ → P76 x τ := by
    intro e x τ he hc hf
    apply h76
    rintro _ rfl
    rw [mm2 (show (15 : Nat) ≠ 10 by omega), mm2 (show (16 : Nat) ≠ 10 by omega)]
    refine ⟨fun q => absurd q hc.np, fun _ => ?_⟩
    rw [hc.2.2.2]
    refine h0 e he _ ?_ mm3 (fun a b q1 q2 q3 => ?_)
    · rw [mm2 (by omega)]; exact hc.2.2.1
    · rw [st1_get, if_neg (by omega)]
      exact hf a b q1 q2 (by omega)
  have stopE : ∀ (e : ER) (x : Int32) (τ : Mem), W0 = .error e → CE τ e → FMk σ τ → P20 x τ := by
    intro e x τ he hc hf
    apply h20
    refine ⟨fun _ => ?_, fun q => absurd q hc.ne⟩
    apply h44
    refine ⟨fun _ => lost e x τ (by rw [he]) hc hf, fun q => absurd q hc.ne⟩
  have key : ∀ (m l : Nat) (S : PS) (p : Nat) (τ : Mem), l + m = T + 1 → l ≤ p → p ≤ T → PI S → PM τ S → CM τ (tkE t T p) → FMk σ τ → W0 = allE t T m S l p → P20 (nI l) τ := by
    intro m
    induction m with
    | zero => intro l S p τ hl hlp hpT; omega
    | succ m ih =>
      intro l S p τ hl hlp hpT hI hS hC hf e
      unfold allE at e
      obtain ⟨r, hr⟩ : ∃ r, tkE t T p = r := ⟨_, rfl⟩
      rw [hr] at e hC
      cases r with
      | error er => exact stopE er _ τ e (hC.1 er rfl) hf
      | ok k =>
        simp only at e
        obtain ⟨a1, a2, a3, a4, a5, a6, a7⟩ := tk_ok hpT hr
        have hck := hC.2 k rfl
        obtain ⟨c1, c2, c3, c4, c5⟩ := hck
        apply h20
        refine ⟨fun q => absurd c1 q, fun _ => ?_⟩
        by_cases e0 : k.k = 0
        · rw [if_pos e0] at e
          refine ⟨fun _ => ?_, fun q => absurd (by rw [c2, e0]; rfl) q⟩
          apply h44
          refine ⟨fun q => absurd c1 q, fun _ => ?_⟩
          have w6 := hI.2.2.2.2.2.2.1.1
          have good : fits6 S → P71 (nI l) 1 τ := by
            intro hfit
            apply h71
            apply m_need1
            apply h76
            rintro _ rfl
            rw [mm2 (show (15 : Nat) ≠ 10 by omega), c1]
            refine ⟨fun _ => ?_, fun q => absurd (by decide) q⟩
            rw [e] at h1
            simp only at h1
            rw [cs_t hfit] at h1
            have hSn : PM (st1 τ 64 10 0) S := hS.fr (fun a b q => by rw [st1_get, if_neg (by omega)])
            refine m_keepD hSn hI hfit (fun υ u1 u2 u3 u4 u5 u6 => ?_)
            refine h1 S l rfl υ u1 u2 (fun j hj => ?_) u4 u5 ?_ ?_ (fun a b q1 q2 q3 q4 q5 => ?_)
            · rw [u3 j hj, mm1 (by omega)]; exact hf 65 j (by omega) (by omega) (by omega)
            · rw [u6 64 15 (by omega) (by omega), mm2 (by omega)]; exact c1
            · rw [u6 64 10 (by omega) (by omega), mm3]
            · rw [u6 a b q1 q2, st1_get, if_neg (by omega)]; exact hf a b q3 q4 (by omega)
          have evil : ¬ fits6 S → P71 (nI l) 0 τ := by
            intro hfit
            apply h71
            refine m_need0 (c := 6) (s := k.s) (by omega) c1 c3 (fun υ u1 u2 => ?_)
            have a6' := a6 e0
            rw [a6'] at u1
            refine lost (6, T) _ υ ?_ u1 (hf.tr (fun a b _ _ q => u2 a b (by omega)))
            rw [e]
            simp only
            rw [cs_f hfit]
          rw [tc24, hS.1]
          rcases hS.2.2.2.2.2.2.2.2.2 with ⟨z0, z8⟩ | ⟨hm, i, i1, i2, i3, i4⟩
          · rw [z8]
            refine ⟨fun q => ?_, fun _ => good (fun i hi => by omega)⟩
            have := nI_pos' (n := pA S 24) (by omega)
            exact absurd (Int32.le_trans this q) (by decide)
          · have hm6 := (hI.2.2.1 i i1).1
            rw [i3]
            refine pk_le (pA S 24) hm (fun q => evil (fun y => by have := y i i1; omega)) (fun q => good (fun j hj => by have := i4 j hj; omega)) rfl rfl (by omega) (by omega)
        · rw [if_neg e0] at e
          refine ⟨fun q => absurd ((nI_eq (b := 0) (by omega) (by omega)).mp (by rw [← c2]; exact q)) e0, fun _ => ?_⟩
          have a5' := a5 e0
          refine m_rl (hT.kp hf) hS hI ⟨c1, c2, c3, c4, c5⟩ a4 a2 a3 (fun e' he' υ u1 u2 => ?_) (fun S' q he' υ u1 u2 u3 => ?_)
          · rw [he'] at e
            rintro _ rfl
            exact stopE e' _ υ e u1 (hf.tr u2)
          · rw [he'] at e
            simp only at e
            obtain ⟨b1, b2, b3⟩ := rl_ok hI a3 he'
            rintro _ rfl
            rw [nI_1]
            exact ih (l + 1) S' q υ (by omega) (by omega) b3 b1 u2 u1 (hf.tr u3) e
  rintro _ rfl _ rfl
  refine m_draft (fun τ t1 t2 => ?_)
  have hf : FMk σ τ := fun a b q1 q2 q3 => by
    rw [t2 a b q1 (by omega), st1_get, if_neg (by omega), st1_get, if_neg (by omega)]
  refine m_tkP (p := 0) (hT.kp hf) ?_ ?_ (by omega) (fun υ u1 u2 => key (T + 1) 0 S0 0 υ (by omega) (by omega) (by omega) pi0 (t1.kt u2) u1 (hf.tr u2.fm) hW.symm)
  · rw [t2 64 15 (by omega) (by omega), mm2 (by omega), mm3]
  · rw [t2 64 11 (by omega) (by omega), mm3]; rfl
