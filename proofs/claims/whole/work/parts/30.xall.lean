/-! the class reads a whole text -/
theorem x_anew {σ : Mem} {Q : Mem → Prop} (hQ : ∀ τ : Mem, PX τ S0 → τ.1 1 8 = 0 → τ.1 1 3 = 0 → τ.1 1 4 = 0 → τ.1 1 1 = σ.1 1 1 → (∀ a b, (a = 0 ∨ a = 2 ∨ (12 ≤ a ∧ a ≠ 78)) → τ.1 a b = σ.1 a b) → τ.2 = σ.2 → Q τ) : wp_X4_startAnew σ Q := by
  intro P49 h49
  rintro _ rfl _ rfl _ rfl _ rfl _ rfl _ rfl
  rintro _ rfl _ rfl _ rfl _ rfl _ rfl _ rfl _ rfl _ rfl
  have key : ∀ (m j : Nat) (τ : Mem), j + m = 6 → (∀ v, v < j → τ.1 4 v = 0) → (∀ k, 2 ≤ k → k ≤ 7 → τ.1 5 k = 0) → (∀ k, (k = 3 ∨ k = 4 ∨ k = 8 ∨ k = 13 ∨ k = 14 ∨ k = 15 ∨ k = 16) → τ.1 1 k = 0) → τ.1 1 1 = σ.1 1 1 → (∀ a b, (a = 0 ∨ a = 2 ∨ (12 ≤ a ∧ a ≠ 78)) → τ.1 a b = σ.1 a b) → τ.2 = σ.2 → P49 (nI j) τ := by
    intro m
    induction m with
    | zero =>
      intro j τ hj g1 g2 g3 g4 g5 g6
      apply h49
      refine pk_le 6 j (fun _ => ?_) (fun q => by omega)
      refine hQ τ ⟨⟨wf0, g2 2 (by omega) (by omega), fun h w hh => absurd hh (Nat.not_lt_zero h), fun i hi => absurd hi (Nat.not_lt_zero i), fun k k1 k2 => g2 (k - 28) (by omega) (by omega)⟩, g3 14 (by omega), g3 15 (by omega), g3 16 (by omega), g3 13 (by omega), fun i hi => absurd hi (Nat.not_lt_zero i), fun v hv => ?_⟩ (g3 8 (by omega)) (g3 3 (by omega)) (g3 4 (by omega)) g4 g5 g6
      rw [g1 v (by omega)]
      show (0 : Int32) = nI (0 / 2 ^ v % 2)
      rw [Nat.zero_div]
      rfl
    | succ m ih =>
      intro j τ hj g1 g2 g3 g4 g5 g6
      apply h49
      refine pk_le 6 j (fun q => by omega) (fun _ => ⟨pk_in j 6 (by omega), ?_⟩)
      rintro _ rfl _ rfl
      rw [nI_clamp (show j < 2 ^ 31 by omega), nI_1]
      refine ih (j + 1) _ (by omega) (fun v hv => ?_) (fun k a b => by rw [mm1 (by omega)]; exact g2 k a b) (fun k a => by rw [mm1 (by omega)]; exact g3 k a) (by rw [mm1 (by omega)]; exact g4) (fun a b q => by rw [mm1 (by omega)]; exact g5 a b q) g6
      rw [st1_get]
      by_cases e : v = j
      · rw [if_pos ⟨rfl, e⟩]; rfl
      · rw [if_neg (fun q => e q.2)]
        exact g1 v (by omega)
  refine key 6 0 _ (by omega) (fun v hv => by omega) (fun k k1 k2 => ?_) (fun k hk => ?_) ?_ (fun a b q => ?_) rfl
  · rw [mm1 (by omega), mm1 (by omega), mm1 (by omega), mm1 (by omega), mm1 (by omega), mm1 (by omega), mm1 (by omega), mm1 (by omega)]
    rcases (show k = 2 ∨ k = 3 ∨ k = 4 ∨ k = 5 ∨ k = 6 ∨ k = 7 by omega) with rfl | rfl | rfl | rfl | rfl | rfl
    all_goals simp (disch := omega) only [mm2, mm3]
  · rcases hk with rfl | rfl | rfl | rfl | rfl | rfl | rfl
    all_goals simp (disch := omega) only [mm2, mm3]
  · simp (disch := omega) only [mm1, mm2]
  · rcases q with rfl | rfl | q
    all_goals simp (disch := omega) only [mm1]
theorem x_form {σ : Mem} {T : Nat} {t : Nat → Nat} {S : PS} {Q : Mem → Prop} (hT : TX σ T t) (hS : PX σ S) (hI : PI S)
    (h0 : ¬ fits6 S → Q (st1 (st1 σ 1 4 6) 1 5 (nI T)))
    (h1 : fits6 S → ∀ τ : Mem, RX τ 5 (finA S) → (∀ a b, a ≠ 11 → τ.1 a b = σ.1 a b) → τ.2 = σ.2 → Q τ) : wp_X4_formRow σ Q := by
  obtain ⟨g1, g2, g3, g4, g5, g6, g7⟩ := hS
  have w6 := g1.1.1
  have i1 := hI.1
  have i2 := hI.2.1
  have i3 := hI.2.2.1
  have pl := popc_le (pp S)
  intro P2 P46 P82 P121 h2 h46 h82 h121
  have rest : fits6 S → ∀ (m h : Nat) (τ : Mem), h + m = pA S 24 → (∀ i, i < pc S → τ.1 11 i = nI (pf S i)) → (∀ q, q < h → pp S / 2 ^ q % 2 = 0 → τ.1 11 (pc S + zc (pp S) q) = nI q) → (∀ a b, a ≠ 11 → τ.1 a b = σ.1 a b) → τ.2 = σ.2 → P82 (nI (pc S + zc (pp S) h)) (nI h) τ := by
    intro hf
    have hp := fit_pow hI hf
    obtain ⟨z1, z2, z3⟩ := zr_ok (pA S 24) (by omega) (pp S) i1 hp
    intro m
    induction m with
    | zero =>
      intro h τ hh k1 k2 k3 k4
      apply h82
      rw [k3 5 2 (by omega), g1.2.1]
      refine pk_le (pA S 24) h (fun _ => ?_) (fun q => by omega) rfl rfl (by omega) (by omega)
      refine h1 hf τ ⟨fin_wf hI hf, ?_, fun a w ha hw => ?_, fun i hi => ?_, fun k a b => ?_⟩ k3 k4
      · rw [k3 5 2 (by omega), finA_o (by omega)]; exact g1.2.1
      · rw [finA_o (by omega)] at ha
        rw [k3 _ _ (by omega), finA_o (by omega)]
        exact g1.2.2.1 a w ha hw
      · rw [finA_o (by omega)] at hi
        rw [finA_l (by omega)]
        unfold rowA
        by_cases y : i < pc S
        · rw [if_pos y]; exact k1 i y
        · rw [if_neg y]
          obtain ⟨a, b, c⟩ := z2 (i - pc S) (by omega) (by omega)
          have := k2 (zr (pp S) (i - pc S)) (by omega) b
          rw [c, show pc S + (i - pc S) = i by omega] at this
          exact this
      · rw [k3 5 _ (by omega), finA_o (by omega)]
        exact g1.2.2.2.2 k a b
    | succ m ih =>
      intro h τ hh k1 k2 k3 k4
      apply h82
      rw [k3 5 2 (by omega), g1.2.1, nI_clamp (show h < 2 ^ 31 by omega), k3 4 h (by omega), g7 h (by omega)]
      refine pk_le (pA S 24) h (fun q => by omega) (fun _ => ⟨pk_in h 6 (by omega), fun z => ?_, fun z => ?_⟩) rfl rfl (by omega) (by omega)
      · have z' : ¬ pp S / 2 ^ h % 2 = 0 := fun y => z (by rw [y]; rfl)
        apply h121
        rintro _ rfl
        rw [nI_1]
        have e : zc (pp S) (h + 1) = zc (pp S) h := by
          show zc (pp S) h + (if pp S / 2 ^ h % 2 = 0 then 1 else 0) = _
          rw [if_neg z']; omega
        have := ih (h + 1) τ (by omega) k1 (fun q hq hb => by
          by_cases y : q = h
          · rw [y] at hb; exact absurd hb z'
          · exact k2 q (by omega) hb) k3 k4
        rw [e] at this
        exact this
      · have z' : pp S / 2 ^ h % 2 = 0 := (nI_eq (b := 0) (by omega) (by omega)).mp z
        have hlt := (z3 h (by omega) z').2
        have e : zc (pp S) (h + 1) = zc (pp S) h + 1 := by
          show zc (pp S) h + (if pp S / 2 ^ h % 2 = 0 then 1 else 0) = _
          rw [if_pos z']
        refine pk_le 6 (pc S + zc (pp S) h) (fun q => by omega) (fun _ => ⟨pk_in (pc S + zc (pp S) h) 6 (by omega), ?_⟩)
        rintro _ rfl _ rfl
        apply h121
        rintro _ rfl
        rw [nI_1, nI_1, nI_clamp (show pc S + zc (pp S) h < 2 ^ 31 by omega)]
        have := ih (h + 1) (st1 τ (5 + 6) (pc S + zc (pp S) h) (nI h)) (by omega) (fun i hi => by rw [mm2 (by omega)]; exact k1 i hi) (fun q hq hb => by
          by_cases y : q = h
          · rw [y]; exact mm3
          · have hq2 := z3 q (by omega) hb
            have hh2 := z3 h (by omega) z'
            have ne : pc S + zc (pp S) q ≠ pc S + zc (pp S) h := by
              intro c
              have c' : zc (pp S) q = zc (pp S) h := by omega
              rw [c', hh2.1] at hq2
              omega
            rw [mm2 ne]
            exact k2 q (by omega) hb) (fun a b q => by rw [mm1 (by omega)]; exact k3 a b q) k4
        rw [e] at this
        exact this
  have copyF : fits6 S → ∀ (m i : Nat) (τ : Mem), i + m = pc S → (∀ j, j < i → τ.1 11 j = nI (pf S j)) → (∀ a b, a ≠ 11 → τ.1 a b = σ.1 a b) → τ.2 = σ.2 → P46 (nI i) τ := by
    intro hf m
    induction m with
    | zero =>
      intro i τ hi k1 k2 k3
      apply h46
      rw [k2 1 13 (by omega), g5]
      refine pk_le (pc S) i (fun _ => ?_) (fun q => by omega) rfl rfl (by omega) (by omega)
      rintro _ rfl
      exact rest hf (pA S 24) 0 τ (by omega) (fun j hj => k1 j (by omega)) (fun q hq => absurd hq (Nat.not_lt_zero q)) k2 k3
    | succ m ih =>
      intro i τ hi k1 k2 k3
      apply h46
      rw [k2 1 13 (by omega), g5, nI_clamp (show i < 2 ^ 31 by omega), k2 3 i (by omega), g6 i (by omega)]
      refine pk_le (pc S) i (fun q => by omega) (fun _ => ⟨pk_in i 6 (by omega), pk_in i 6 (by omega), ?_⟩) rfl rfl (by omega) (by omega)
      rintro _ rfl _ rfl
      rw [nI_1]
      refine ih (i + 1) _ (by omega) (fun j hj => ?_) (fun a b q => by rw [mm1 (by omega)]; exact k2 a b q) k3
      by_cases y : j = i
      · rw [y]; exact mm3
      · rw [mm2 y]; exact k1 j (by omega)
  have check : ∀ (m i : Nat), i + m = pc S → (∀ j, j < i → pf S j < pA S 24) → P2 (nI i) σ := by
    intro m
    induction m with
    | zero =>
      intro i hi k
      apply h2
      rw [g5]
      exact pk_le (pc S) i (fun _ => copyF (fun j hj => k j (by omega)) (pc S) 0 σ (by omega) (fun j hj => absurd hj (Nat.not_lt_zero j)) (fun _ _ _ => rfl) rfl) (fun q => by omega) rfl rfl (by omega) (by omega)
    | succ m ih =>
      intro i hi k
      apply h2
      have := (i3 i (by omega)).1
      rw [g5, nI_clamp (show i < 2 ^ 31 by omega), g6 i (by omega), g1.2.1]
      refine pk_le (pc S) i (fun q => by omega) (fun _ => ⟨pk_in i 6 (by omega), ?_⟩) rfl rfl (by omega) (by omega)
      refine pk_lt (pf S i) (pA S 24) (fun z => ?_) (fun z => ?_) rfl rfl (by omega) (by omega)
      · rintro _ rfl
        rw [nI_1]
        refine ih (i + 1) (by omega) (fun j hj => ?_)
        by_cases y : j = i
        · rw [y]; exact z
        · exact k j (by omega)
      · rw [hT.2.1]
        rintro _ rfl _ rfl
        exact h0 (fun q => by have := q i (by omega); omega)
  exact check (pc S) 0 (by omega) (fun j hj => absurd hj (Nat.not_lt_zero j))
theorem x_all {σ : Mem} {T : Nat} {t : Nat → Nat} {Q : Mem → Prop} (hT : TX σ T t)
    (h0 : ∀ e : ER, finE t T = .error e → ∀ τ : Mem, τ.1 1 4 = nI e.1 → τ.1 1 5 = nI e.2 → (∀ a b, (a = 0 ∨ a = 2 ∨ (12 ≤ a ∧ a ≠ 78)) → τ.1 a b = σ.1 a b) → τ.2 = σ.2 → Q τ)
    (h1 : ∀ (S : PS) (l : Nat), finE t T = .ok (S, l) → ∀ τ : Mem, RX τ 5 (finA S) → τ.1 1 3 = nI l → τ.1 1 4 = 0 → (∀ a b, (a = 0 ∨ a = 2 ∨ (12 ≤ a ∧ a ≠ 78)) → τ.1 a b = σ.1 a b) → τ.2 = σ.2 → Q τ) : wp_X4_readAll σ Q := by
  intro P6 P56 h6 h56
  have T6 := hT.1
  unfold finE at h0 h1
  obtain ⟨W0, hW⟩ : ∃ W0, allE t T (T + 1) S0 0 0 = W0 := ⟨_, rfl⟩
  rw [hW] at h0 h1
  have key : ∀ (m i : Nat) (S : PS) (p : Nat) (τ : Mem), i + m = T + 1 → i ≤ p → p ≤ T → PI S → PX τ S → τ.1 1 8 = nI p → τ.1 1 3 = nI i → τ.1 1 4 = 0 → τ.1 1 1 = nI T → (∀ a b, (a = 0 ∨ a = 2 ∨ (12 ≤ a ∧ a ≠ 78)) → τ.1 a b = σ.1 a b) → τ.2 = σ.2 → W0 = allE t T m S i p → P6 (nI i) τ := by
    intro m
    induction m with
    | zero => intro i S p τ hi hip hpT; omega
    | succ m ih =>
      intro i S p τ hi hip hpT hI hS k8 k3 k4 k1 kf k2 e
      apply h6
      rw [k1]
      refine pk_lt T i (fun q => by omega) (fun _ => ?_)
      have hTt : TX τ T t := ⟨T6, k1, fun j hj => by rw [kf 2 j (by omega)]; exact hT.2.2 j hj⟩
      unfold allE at e
      refine x_take hTt k8 hpT (fun s he υ u1 u2 u3 u4 => b00 ?_) (fun k he υ u1 u2 u3 u4 u5 u6 => b10 ?_)
      · rw [he] at e
        rw [e] at h0
        exact h0 (1, s) rfl υ u1 u2 (fun a b q => by rw [u3 a b (by omega)]; exact kf a b q) (u4.trans k2)
      · rw [he] at e
        simp only at e
        obtain ⟨a1, a2, a3, a4, a5, a6, a7⟩ := tk_ok hpT he
        have hSu : PX υ S := hS.fr (fun a b q1 q2 q3 => u5 a b (by omega))
        have hTu : TX υ T t := hTt.kp (FXk.of (fun a b q => u5 a b (by omega)) u6)
        rw [u1]
        by_cases e0 : k.k = 0
        · rw [if_pos e0] at e
          rw [e0]
          refine ⟨fun q => absurd rfl q, fun _ => ?_⟩
          apply h56
          rw [e] at h0 h1
          simp only at h0 h1
          refine x_form hTu hSu hI (fun hf => ?_) (fun hf τ' t1 t2 t3 => ?_)
          · rw [cs_f hf] at h0
            refine h0 (6, T) rfl _ ?_ mm3 (fun a b q => ?_) (u6.trans k2)
            · rw [mm2 (by omega), mm3]; rfl
            · rw [mm1 (by omega), mm1 (by omega), u5 a b (by omega)]; exact kf a b q
          · rw [cs_t hf] at h1
            refine h1 S i rfl τ' t1 ?_ ?_ (fun a b q => by rw [t2 a b (by omega), u5 a b (by omega)]; exact kf a b q) (t3.trans (u6.trans k2))
            · rw [t2 1 3 (by omega), u5 1 3 (by omega)]; exact k3
            · rw [t2 1 4 (by omega), u5 1 4 (by omega)]; exact k4
        · rw [if_neg e0] at e
          refine ⟨fun _ => ?_, fun q => absurd ((nI_eq (b := 0) (by omega) (by omega)).mp q) e0⟩
          have a5' := a5 e0
          refine x_rl hTu hSu u1 u2 u3 a4 a2 a3 hI.2.2.2.2.2.1 ⟨fun e' he' τ' t1 t2 t3 => b00 ?_, fun S' q he' τ' t1 t2 t3 t4 => b10 ?_⟩
          · rw [he'] at e
            rw [e] at h0
            exact h0 e' rfl τ' t1 t2 (fun a b q => by rw [t3.1 a b q, u5 a b (by omega)]; exact kf a b q) (t3.2.2.2.trans (u6.trans k2))
          · rw [he'] at e
            simp only at e
            obtain ⟨b1, b2, b3⟩ := rl_ok hI a3 he'
            rw [t4.2.2.1, u5 1 3 (by omega), k3, nI_1]
            rintro _ rfl _ rfl
            refine ih (i + 1) S' q _ (by omega) (by omega) b3 b1 (t1.fr (fun a b q1 q2 q3 => by rw [st1_get, if_neg (by omega)])) ?_ mm3 ?_ ?_ (fun a b q => ?_) (t4.2.2.2.trans (u6.trans k2)) e
            · rw [mm2 (by omega)]; exact t2
            · rw [mm2 (by omega), t3, u5 1 4 (by omega)]; exact k4
            · rw [mm2 (by omega), t4.2.1, u5 1 1 (by omega)]; exact k1
            · rw [mm1 (by omega), t4.1 a b q, u5 a b (by omega)]; exact kf a b q
  exact x_anew (fun τ t1 t2 t3 t4 t5 t6 t7 => key (T + 1) 0 S0 0 τ (by omega) (by omega) (by omega) pi0 t1 t2 t3 t4 (by rw [t5]; exact hT.2.1) t6 t7 hW.symm)
theorem x_text {σ : Mem} {T : Nat} {t : Nat → Nat} {Q : Int32 → Mem → Prop} (hT : TX σ T t)
    (h0 : ∀ e : ER, finE t T = .error e → ∀ τ : Mem, τ.1 1 4 = nI e.1 → τ.1 1 1 = 0 → (∀ a b, (a = 0 ∨ a = 2 ∨ (12 ≤ a ∧ a ≠ 78)) → τ.1 a b = σ.1 a b) → τ.2 = σ.2 → Q (-10 - nI e.2) τ)
    (h1 : ∀ (S : PS) (l : Nat), finE t T = .ok (S, l) → ∀ τ : Mem, RX τ 12 (finA S) → τ.1 1 4 = 0 → τ.1 1 1 = 0 → τ.1 26 2 = 0 → τ.1 30 2 = 0 → τ.1 41 2 = 0 → (∀ a b, (a = 0 ∨ a = 2 ∨ (19 ≤ a ∧ a ≠ 78)) → ¬ ((a = 26 ∨ a = 30 ∨ a = 41) ∧ b = 2) → τ.1 a b = σ.1 a b) → τ.2 = σ.2 → Q (nI l) τ) : wp_X5_text σ Q := by
  intro P60 h60
  have T6 := hT.1
  refine x_all hT (fun e he τ t1 t2 t3 t4 => ?_) (fun S l he τ t1 t2 t3 t4 t5 => ?_)
  · obtain ⟨o1, o2, o3⟩ := fin_er he
    rintro _ rfl
    rw [mm2 (show (4 : Nat) ≠ 1 by omega), mm2 (show (5 : Nat) ≠ 1 by omega), t1, t2]
    refine ⟨fun q => absurd ((nI_eq (b := 0) (by omega) (by omega)).mp q) (by omega), fun _ => ?_⟩
    refine h0 e he _ ?_ mm3 (fun a b q => by rw [mm1 (by omega)]; exact t3 a b q) t4
    rw [mm2 (by omega)]; exact t1
  · rintro _ rfl
    rw [mm2 (show (4 : Nat) ≠ 1 by omega), t3]
    refine ⟨fun _ => ?_, fun q => absurd rfl q⟩
    have hR : RX (st1 τ 1 1 0) 5 (finA S) := t1.frame (fun a b q1 q2 => mm1 (by omega))
    refine x_copy hR (by omega) (fun υ u1 _ u2 u3 => ?_)
    rintro _ rfl
    have key : ∀ (m k : Nat) (ψ : Mem), k + m = 2 → (∀ j, j < k → ψ.1 (30 + 11 * j) 2 = 0) → (∀ a b, ¬ ((a = 30 ∨ a = 41) ∧ b = 2) → ψ.1 a b = (st1 υ 26 2 0).1 a b) → ψ.2 = σ.2 → P60 (nI k) ψ := by
      intro m
      induction m with
      | zero =>
        intro k ψ hk k1 k2 k3
        apply h60
        refine pk_le 2 k (fun _ => ?_) (fun q => by omega)
        rw [k2 1 3 (by omega), mm1 (by omega), u2 1 3 (by omega), mm2 (by omega), t2]
        refine h1 S l he ψ (u1.frame (fun a b q1 q2 => by rw [k2 a b (by omega), mm1 (by omega)])) ?_ ?_ ?_ (k1 0 (by omega)) (k1 1 (by omega)) (fun a b q1 q2 => ?_) k3
        · rw [k2 1 4 (by omega), mm1 (by omega), u2 1 4 (by omega), mm2 (by omega)]; exact t3
        · rw [k2 1 1 (by omega), mm1 (by omega), u2 1 1 (by omega), mm3]
        · rw [k2 26 2 (by omega), mm3]
        · rw [k2 a b (by omega), st1_get, if_neg (by omega), u2 a b (by omega), mm1 (by omega)]
          exact t4 a b (by omega)
      | succ m ih =>
        intro k ψ hk k1 k2 k3
        apply h60
        refine pk_le 2 k (fun q => by omega) (fun _ => ⟨pk_in k 2 (by omega), ?_⟩)
        rintro _ rfl _ rfl
        rw [nI_clamp (show k < 2 ^ 31 by omega), nI_1]
        refine ih (k + 1) _ (by omega) (fun j hj => ?_) (fun a b q => ?_) k3
        · by_cases y : j = k
          · rw [y]; exact mm3
          · rw [mm1 (by omega)]; exact k1 j (by omega)
        · rw [st1_get, if_neg (by omega)]
          exact k2 a b q
    exact key 2 0 _ (by omega) (fun j hj => absurd hj (Nat.not_lt_zero j)) (fun _ _ _ => rfl) (u3.trans t5)
