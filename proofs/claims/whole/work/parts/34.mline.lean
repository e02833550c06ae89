/-! the reference reads one line -/
theorem PM.fl {σ : Mem} {S S' : PS} (h : PM σ S) {v : Int32} (hA : pA S' = pA S) (hr : S'.2.2.2.2 = S.2.2.2.2) (hv : v = nI (flN S')) : PM (st1 σ 64 4 v) S' := by
  obtain ⟨h1, h2, h3, h4, h5, h6, h7, h8, h9, h10⟩ := h
  have rc : pc S' = pc S := congrArg (fun x => x.1) hr
  have rp : pp S' = pp S := congrArg (fun x => x.2.1) hr
  have rf : pf S' = pf S := congrArg (fun x => x.2.2) hr
  unfold PM
  rw [hA, rc, rp, rf]
  refine ⟨by rw [mm1 (by omega)]; exact h1, fun a w ha hw => by rw [mm1 (by omega)]; exact h2 a w ha hw, by rw [mm1 (by omega)]; exact h3, by rw [mm1 (by omega)]; exact h4, fun k a b => by rw [mm1 (by omega)]; exact h5 k a b, by rw [mm3]; exact hv, by rw [mm2 (by omega)]; exact h7, by rw [mm2 (by omega)]; exact h8, fun i hi => by rw [mm1 (by omega)]; exact h9 i hi, ?_⟩
  unfold HI
  rw [mm2 (by omega), rc, rf]
  exact h10
theorem cd_le {t : Nat → Nat} {s e : Nat} : cdE t s e ≤ 7 := by
  by_cases h : ∃ i, i < 7 ∧ nmP t i s e
  · obtain ⟨i, hi, h⟩ := h
    rw [cd_of hi h]
    omega
  · rw [cd_no (fun i hi q => h ⟨i, hi, q⟩)]
    omega
theorem m_rl {σ : Mem} {T : Nat} {t : Nat → Nat} {S : PS} {k : Tok} {Q : Mem → Prop} (hT : TM σ T t) (hS : PM σ S) (hI : PI S) (hC : CK σ k) (hk3 : k.k ≤ 3) (hsn : k.s ≤ k.n) (hnT : k.n ≤ T)
    (h0 : ∀ e : ER, rlE t T S k = .error e → ∀ τ : Mem, CE τ e → FMk σ τ → Q τ)
    (h1 : ∀ (S' : PS) (q : Nat), rlE t T S k = .ok (S', q) → ∀ τ : Mem, CM τ (tkE t T q) → PM τ S' → FMk σ τ → Q τ) : wp_X6_readLine σ Q := by
  intro P17 P30 P52 P57 P90 P106 P144 P148 h17 h30 h52 h57 h90 h106 h144 h148
  obtain ⟨c1, c2, c3, c4, c5⟩ := hC
  have w6 := hI.2.2.2.2.2.2.1.1
  have gk : GR T (tkE t T k.n) := gr_tk hnT
  obtain ⟨W0, hW⟩ : ∃ W0, rlE t T S k = W0 := ⟨_, rfl⟩
  rw [hW] at h0 h1
  have dead : ∀ (e : ER) (τ : Mem) (x : Int32), W0 = .error e → CE τ e → FMk σ τ → P106 x τ := by
    intro e τ x he hc hf
    apply h106
    refine m_tkE hc ?_
    exact ⟨fun q => absurd q hc.np, fun _ => h0 e he τ hc hf⟩
  have fin : ∀ (τ : Mem) (r : Except ER Tok), CM τ r → GR T r → FMk σ τ → (∀ e, stp r = .error e → W0 = .error e) → (∀ q, stp r = .ok q → ∃ S', W0 = .ok (S', q) ∧ PM τ S') → (¬ τ.1 64 15 = 0 → P148 τ) ∧ (τ.1 64 15 = 0 → (¬ τ.1 64 13 = 3 → P144 0 τ) ∧ (τ.1 64 13 = 3 → P144 1 τ)) := by
    intro τ r hc g hf he hq
    cases r with
    | error e =>
      have hce := hc.1 e rfl
      refine ⟨fun _ => ?_, fun z => absurd z hce.ne⟩
      apply h148
      exact m_tkE hce (h0 e (he e rfl) τ hce hf)
    | ok k' =>
      obtain ⟨d1, d2, d3, d4, d5⟩ := hc.2 k' rfl
      obtain ⟨g1, g2, g3, g4⟩ := g.2 k' rfl
      refine ⟨fun z => absurd d1 z, fun _ => ?_⟩
      unfold stp at he hq
      simp only at he hq
      by_cases e3 : k'.k = 3
      · rw [if_pos e3] at hq
        refine ⟨fun z => absurd (by rw [d2, e3]; rfl) z, fun _ => ?_⟩
        apply h144
        apply m_need1
        apply h148
        obtain ⟨S', w1, w2⟩ := hq k'.n rfl
        exact m_tkK (hT.kp hf) ⟨d1, d2, d3, d4, d5⟩ g2 (fun υ u1 u2 => h1 S' k'.n w1 υ u1 (w2.kt u2) (hf.tr u2.fm))
      · rw [if_neg e3] at he
        refine ⟨fun _ => ?_, fun z => absurd ((nI_eq (b := 3) (by omega) (by omega)).mp (by rw [← d2]; exact z)) e3⟩
        apply h144
        refine m_need0 (c := 2) (s := k'.s) (by omega) d1 d3 (fun υ u1 u2 => ?_)
        apply h148
        exact m_tkE u1 (h0 _ (he _ rfl) υ u1 (hf.tr (fun a b _ _ q => u2 a b (by omega))))
  have bad : W0 = .error (2, k.s) → P17 (-4) σ := by
    intro he
    apply h17
    refine ⟨fun _ => ?_, fun q => absurd rfl q⟩
    apply h30
    refine m_need0 (c := 2) (s := k.s) (by omega) c1 c3 (fun τ t1 t2 => ?_)
    have p57 : ∀ s0, P57 (-4) s0 τ := by
      intro s0
      apply h57
      refine m_needF t1.ne ?_
      exact ⟨fun _ => dead _ τ _ he t1 (fun a b _ _ q => t2 a b (by omega)), fun q => absurd q t1.ne⟩
    exact ⟨fun q => absurd q (by decide), fun _ => ⟨fun _ => p57 0, fun _ => h52 _ _ (p57 1)⟩⟩
  unfold rlE at hW
  rw [c2]
  by_cases e1 : k.k = 1
  · rw [if_pos e1] at hW
    refine ⟨fun q => absurd (by rw [e1]; rfl) q, fun _ => ?_⟩
    refine m_code hT c4 c3 hsn hnT ?_
    have c8 := cd_le (t := t) (s := k.s) (e := k.n)
    generalize cdE t k.s k.n = c at hW c8
    by_cases hc7 : c < 7
    · have kcn : kc c = nI c := by unfold kc; rw [if_neg (by omega)]
      rw [kcn]
      apply h17
      refine ⟨fun q => absurd q (nI_m4 (by omega)), fun _ => ?_⟩
      apply h30
      apply m_need1
      by_cases hc4 : c < 4
      · rw [if_pos hc4] at hW
        refine pk_le 4 c (fun q => by omega) (fun _ => ?_)
        rw [tc24, hS.1]
        refine pk_le 6 (pA S 24) (fun z => ?_) (fun z => ?_)
        · unfold heirE at hW
          rw [if_neg (by omega)] at hW
          apply h57
          refine m_need0 (c := 5) (s := k.s) (by omega) c1 c3 (fun τ t1 t2 => ?_)
          exact ⟨fun _ => dead _ τ _ hW.symm t1 (fun a b _ _ q => t2 a b (by omega)), fun q => absurd q t1.ne⟩
        · apply h52
          apply h57
          apply m_need1
          refine ⟨fun q => absurd c1 q, fun _ => pk_lt c 4 (fun _ => ?_) (fun q => by omega)⟩
          apply h106
          refine m_tkK hT ⟨c1, c2, c3, c4, c5⟩ hnT (fun τ t1 t2 => ?_)
          refine ⟨fun _ => ?_, fun q => ?_⟩
          · refine m_rheir (hT.kt t2) (hS.kt t2) hnT t1 (by omega) z (fun υ u1 u2 u3 => ?_)
            refine fin υ _ u1 (gr_nx (gr_nx (gr_nx gk))) (t2.fm.tr u3) (fun e he => ?_) (fun q hq => ⟨_, ?_, u2⟩)
            · unfold heirE at hW
              rw [if_pos z, he] at hW
              exact hW.symm
            · unfold heirE at hW
              rw [if_pos z, hq] at hW
              exact hW.symm
          · obtain ⟨r, hr⟩ : ∃ r, tkE t T k.n = r := ⟨_, rfl⟩
            rw [hr] at t1
            cases r with
            | error e =>
              have hce := t1.1 e rfl
              unfold heirE at hW
              rw [if_pos z, hr] at hW
              exact h0 e hW.symm τ hce t2.fm
            | ok k' =>
              exact absurd (by rw [(t1.2 k' rfl).1]; decide) q
      · rw [if_neg hc4] at hW
        refine pk_le 4 c (fun _ => ?_) (fun q => by omega)
        apply h52
        apply h57
        apply m_need1
        refine ⟨fun q => absurd c1 q, fun _ => pk_lt c 4 (fun q => by omega) (fun _ => ?_)⟩
        have hfl := fl_bit (p4 S) (p5 S) (p6 S)
        have hor := fl_or (p4 S) (p5 S) (p6 S)
        have e4 : σ.1 64 4 = nI (16 * (p4 S).toNat + 32 * (p5 S).toNat + 64 * (p6 S).toNat) := hS.2.2.2.2.2.1
        have told : W0 = .error (4, k.s) → P90 (nI c) 0 σ := by
          intro he
          apply h90
          refine m_need0 (c := 4) (s := k.s) (by omega) c1 c3 (fun τ t1 t2 => ?_)
          rintro _ rfl
          exact dead _ _ _ he (t1.fr (mm2 (by omega)) (mm2 (by omega))) (fun a b q1 q2 q3 => by rw [st1_get, if_neg (by omega)]; exact t2 a b (by omega))
        have fresh : ∀ (S' : PS), pA S' = pA S → S'.2.2.2.2 = S.2.2.2.2 → nI (flN S') = (σ.1 64 4 ||| ((1 : Int32) <<< (nI c &&& 31))) →
            (∀ e, tkE t T k.n = .error e → W0 = .error e) →
            (∀ τ : Mem, CM τ (tkE t T k.n) → PM τ S' → FMk σ τ → TM τ T t → wp_X6_readLineOf (nI c) τ (fun σ13 => (¬ (σ13.1 64 15) = 0 → P148 σ13) ∧ ((σ13.1 64 15) = 0 → (¬ (σ13.1 64 13) = (3 : Int32) → P144 (0 : Int32) σ13) ∧ ((σ13.1 64 13) = (3 : Int32) → P144 (1 : Int32) σ13)))) → P90 (nI c) 1 σ := by
          intro S' hA hr hv he hgo
          apply h90
          apply m_need1
          rintro _ rfl
          apply h106
          have hSn : PM (st1 σ 64 4 (σ.1 64 4 ||| ((1 : Int32) <<< (nI c &&& 31)))) S' := hS.fl hA hr hv.symm
          have hf : FMk σ (st1 σ 64 4 (σ.1 64 4 ||| ((1 : Int32) <<< (nI c &&& 31)))) := fun a b q1 q2 q3 => by rw [st1_get, if_neg (by omega)]
          refine m_tkP (p := k.n) (hT.kp hf) (by rw [mm2 (by omega)]; exact c1) (by rw [mm2 (by omega)]; exact c4) hnT (fun τ t1 t2 => ?_)
          refine ⟨fun _ => hgo τ t1 (hSn.kt t2) (hf.tr t2.fm) (hT.kp (hf.tr t2.fm)), fun q => ?_⟩
          obtain ⟨r, hr'⟩ : ∃ r, tkE t T k.n = r := ⟨_, rfl⟩
          rw [hr'] at t1
          cases r with
          | error e => exact h0 e (he e hr') τ (t1.1 e rfl) (hf.tr t2.fm)
          | ok k' => exact absurd (by rw [(t1.2 k' rfl).1]; decide) q
        rw [e4]
        rw [e4] at fresh
        rcases (show c = 4 ∨ c = 5 ∨ c = 6 by omega) with rfl | rfl | rfl
        · rw [if_pos rfl] at hW
          unfold linE at hW
          refine ⟨fun z => told ?_, fun z => ?_⟩
          · have hb : p4 S = true := by
              cases hb : p4 S with
              | true => rfl
              | false => exact absurd (hfl.1.mpr hb) z
            rw [if_pos hb] at hW
            exact hW.symm
          · have hb : p4 S = false := hfl.1.mp z
            rw [hb, if_neg (by decide)] at hW
            refine fresh (pA S, true, p5 S, p6 S, S.2.2.2.2) rfl rfl hor.1.symm (fun e he => ?_) (fun τ t1 t2 t3 t4 => ?_)
            · unfold fstE at hW
              rw [he] at hW
              exact hW.symm
            · obtain ⟨i1, i2, i3, i4, i5, i6, i7, i8⟩ := hI
              refine ⟨fun _ => ?_, fun q => absurd q (by decide), fun q => absurd q (by decide), fun q => absurd rfl q⟩
              refine m_theline (S := (pA S, true, p5 S, p6 S, S.2.2.2.2)) t4 t2 hnT t1 ⟨i1, i2, i3, i4, i5, (fun q => by cases q), i7, i8⟩ (i6 hb).1 rfl (fun υ r u1 u2 u3 u4 => ?_)
              rw [hW] at u3
              refine fin υ r u1 u2 (t3.tr u4) (fun e he => ?_) (fun q hq => ?_)
              · rcases u3 with ⟨e', a, b⟩ | ⟨S', q, a, b, -⟩
                · rw [he] at b
                  cases b
                  exact a
                · rw [he] at b
                  cases b
              · rcases u3 with ⟨e', a, b⟩ | ⟨S', q', a, b, d⟩
                · rw [hq] at b
                  cases b
                · rw [hq] at b
                  cases b
                  exact ⟨S', a, d⟩
        · rw [if_neg (by omega), if_pos rfl] at hW
          unfold lumE at hW
          refine ⟨fun z => told ?_, fun z => ?_⟩
          · have hb : p5 S = true := by
              cases hb : p5 S with
              | true => rfl
              | false => exact absurd (hfl.2.1.mpr hb) z
            rw [if_pos hb] at hW
            exact hW.symm
          · have hb : p5 S = false := hfl.2.1.mp z
            rw [hb, if_neg (by decide)] at hW
            refine fresh (pA S, p4 S, true, p6 S, S.2.2.2.2) rfl rfl hor.2.1.symm (fun e he => ?_) (fun τ t1 t2 t3 t4 => ?_)
            · rw [he] at hW
              exact hW.symm
            · refine m_mlum (S := (pA S, p4 S, true, p6 S, S.2.2.2.2)) t4 t2 hnT t1 (fun υ u1 u2 u3 => ?_) w6
              refine fin υ _ u1 (gr_nx gk) (t3.tr u3) (fun e he => ?_) (fun q hq => ⟨_, ?_, u2⟩)
              · rw [he] at hW
                exact hW.symm
              · rw [hq] at hW
                exact hW.symm
        · rw [if_neg (by omega), if_neg (by omega), if_pos rfl] at hW
          unfold wrkE at hW
          refine ⟨fun z => told ?_, fun z => ?_⟩
          · have hb : p6 S = true := by
              cases hb : p6 S with
              | true => rfl
              | false => exact absurd (hfl.2.2.mpr hb) z
            rw [if_pos hb] at hW
            exact hW.symm
          · have hb : p6 S = false := hfl.2.2.mp z
            rw [hb, if_neg (by decide)] at hW
            refine fresh (pA S, p4 S, p5 S, true, S.2.2.2.2) rfl rfl hor.2.2.symm (fun e he => ?_) (fun τ t1 t2 t3 t4 => ?_)
            · rw [he] at hW
              exact hW.symm
            · refine m_mwrk (S := (pA S, p4 S, p5 S, true, S.2.2.2.2)) t4 t2 hnT t1 (fun υ u1 u2 u3 => ?_) w6
              refine fin υ _ u1 (gr_nx gk) (t3.tr u3) (fun e he => ?_) (fun q hq => ⟨_, ?_, u2⟩)
              · rw [he] at hW
                exact hW.symm
              · rw [hq] at hW
                exact hW.symm
    · rw [if_neg (by omega), if_neg (by omega), if_neg (by omega), if_neg (by omega)] at hW
      have : kc c = -4 := by unfold kc; rw [if_pos (by omega)]
      rw [this]
      exact bad hW.symm
  · rw [if_neg e1] at hW
    exact ⟨fun _ => bad hW.symm, fun q => absurd ((nI_eq (b := 1) (by omega) (by omega)).mp q) e1⟩
