/-! what was seen -/
def WS (A : Nat → Nat) : Prop := A 36 ≤ 6 ∧ ∀ i, i < A 36 → 1 ≤ A (37 + 2 * i) ∧ A (37 + 2 * i) ≤ 20
def SX (σ : Mem) (d : Nat) (A : Nat → Nat) : Prop := WS A ∧ σ.1 d 2 = nI (A 36) ∧ ∀ i, i < A 36 → σ.1 (d + 1) i = nI (A (37 + 2 * i)) ∧ σ.1 (d + 2) i = nI (A (38 + 2 * i))
def SL (g : Nat → Int32) (A : Nat → Nat) : Prop := WS A ∧ g 36 = nI (A 36) ∧ ∀ i, i < A 36 → g (37 + 2 * i) = nI (A (37 + 2 * i)) ∧ g (38 + 2 * i) = nI (A (38 + 2 * i))
theorem SX.fr {σ τ : Mem} {d : Nat} {A : Nat → Nat} (h : SX σ d A) (hk : ∀ a b, d ≤ a → a < d + 3 → τ.1 a b = σ.1 a b) : SX τ d A := ⟨h.1, by rw [hk _ _ (by omega) (by omega)]; exact h.2.1, fun i hi => ⟨by rw [hk _ _ (by omega) (by omega)]; exact (h.2.2 i hi).1, by rw [hk _ _ (by omega) (by omega)]; exact (h.2.2 i hi).2⟩⟩
theorem SL.fr {g g' : Nat → Int32} {A : Nat → Nat} (h : SL g A) (hk : ∀ k, 36 ≤ k → k < 49 → g' k = g k) : SL g' A := by
  have w := h.1.1
  exact ⟨h.1, by rw [hk _ (by omega) (by omega)]; exact h.2.1, fun i hi => ⟨by rw [hk _ (by omega) (by omega)]; exact (h.2.2 i hi).1, by rw [hk _ (by omega) (by omega)]; exact (h.2.2 i hi).2⟩⟩
def fitP (A B : Nat → Nat) : Prop := ∀ i, i < A 36 → nI (itA (A (37 + 2 * i) - 1) B 26) = nI (A (38 + 2 * i))
theorem x_fits {σ : Mem} {A B : Nat → Nat} {Q : Int32 → Mem → Prop} (hS : SX σ 26 A) (hK : ∀ r, r < 20 → σ.1 61 r = nI (itA r B 26)) (h1 : fitP A B → Q 1 σ) (h0 : ¬ fitP A B → Q 0 σ) : wp_X3_fits 26 σ Q := by
  obtain ⟨⟨w1, w2⟩, hn, hs⟩ := hS
  intro P2 hP
  have key : ∀ m j : Nat, j + m = A 36 → (∀ i, i < j → nI (itA (A (37 + 2 * i) - 1) B 26) = nI (A (38 + 2 * i))) → P2 (nI j) σ := by
    intro m
    induction m with
    | zero =>
      intro j hj g
      apply hP
      rw [hn]
      exact pk_le (A 36) j (fun _ => h1 (fun i hi => g i (by omega))) (fun q => by omega)
    | succ m ih =>
      intro j hj g
      apply hP
      rw [hn]
      refine pk_le (A 36) j (fun q => by omega) (fun _ => ?_)
      obtain ⟨b1, b2⟩ := w2 j (by omega)
      obtain ⟨s1, s2⟩ := hs j (by omega)
      rw [nI_clamp (show j < 2 ^ 31 by omega), s1, s2, nI_p1 (by omega), nI_clamp (show A (37 + 2 * j) - 1 < 2 ^ 31 by omega), hK _ (by omega)]
      refine ⟨pk_in j 6 (by omega), pk_in (A (37 + 2 * j) - 1) 20 (by omega), pk_in j 6 (by omega), fun q => ?_, fun q => ?_⟩
      · rintro _ rfl
        rw [nI_1]
        exact ih (j + 1) (by omega) (fun i hi => by
          rcases Nat.lt_or_eq_of_le (Nat.le_of_lt_succ hi) with h | h
          · exact g i h
          · rw [h]; exact q)
      · exact h0 (fun hf => q (hf j (by omega)))
  exact key (A 36) 0 (by omega) (fun i hi => by omega)
theorem x_asSeen {h w v : Nat} {σ : Mem} {A : Nat → Nat} {Q : Int32 → Mem → Prop} (hR : RX σ 12 A) (hS : SX σ 26 A) (h2 : 2 ≤ A 24) (hh : h < A 24) (hv : okT w v)
    (h1 : fitP A (setA A (4 * h + w) v) → ∀ τ : Mem, KX σ τ → (∀ b, τ.1 63 b = σ.1 63 b) → (∀ r, r < 20 → τ.1 61 r = nI (itA r (setA A (4 * h + w) v) 26)) → Q 1 τ)
    (h0 : ¬ fitP A (setA A (4 * h + w) v) → ∀ τ : Mem, KX σ τ → (∀ b, τ.1 63 b = σ.1 63 b) → Q 0 τ) : wp_X5_isAsSeen (nI h) (nI w) (nI v) σ Q := by
  have w6 := hR.1.1
  have hw : w < 4 := by unfold okT at hv; omega
  intro P26 hP
  have W' := hR.1.set hh hv
  have e24 : setA A (4 * h + w) v 24 = A 24 := setA_ne (by omega)
  have key : ∀ m j : Nat, ∀ τ : Mem, j + m = 20 → RX τ 19 (itA j (setA A (4 * h + w) v)) → (∀ r, r < j → τ.1 61 r = nI (itA r (setA A (4 * h + w) v) 26)) → KX σ τ → (∀ b, τ.1 63 b = σ.1 63 b) → P26 (nI j) τ := by
    intro m
    induction m with
    | zero =>
      intro j τ hj g1 g2 g4 g5
      apply hP
      refine pk_le 20 j (fun _ => ?_) (fun q => by omega)
      refine x_fits (B := setA A (4 * h + w) v) (hS.fr (fun a b q1 q2 => g4.1 a b (by omega))) (fun r hr => g2 r (by omega)) (fun hf => ⟨Or.inr rfl, h1 hf τ g4 g5 (fun r hr => g2 r (by omega))⟩) (fun hf => ⟨Or.inl rfl, h0 hf τ g4 g5⟩)
    | succ m ih =>
      intro j τ hj g1 g2 g4 g5
      apply hP
      refine pk_le 20 j (fun q => by omega) (fun _ => ?_)
      refine x_crown0 g1 (by rw [(it_wf W' (by omega) j).2]; omega) (fun υ u1 u8 _ _ _ _ u2 u3 => ?_)
      refine ⟨pk_in j 20 (by omega), ?_⟩
      rintro _ rfl _ rfl
      rw [nI_clamp (show j < 2 ^ 31 by omega), nI_1, u8]
      refine ih (j + 1) _ (by omega) (u1.fr (fun a b q1 q2 q3 => mm1 (by omega))) (fun r hr => ?_) ((g4.tr (KX.of u2 u3)).st (by omega)) (fun b => ?_)
      · rw [st1_get]
        by_cases e : r = j
        · rw [if_pos ⟨rfl, e⟩, e]
        · rw [if_neg (by omega), u2 _ _ (by omega)]
          exact g2 r (by omega)
      · rw [mm1 (by omega), u2 _ _ (by omega)]
        exact g5 b
  refine x_copy hR (by omega) (fun τ t1 _ t2 t3 => ?_)
  refine ⟨pk_in w 4 hw, pk_in h 6 (by omega), ?_⟩
  rintro _ rfl
  rw [nI_clamp (show w < 2 ^ 31 by omega), nI_clamp (show h < 2 ^ 31 by omega), Nat.one_mul]
  refine key 20 0 _ (by omega) (t1.setT hh hv) (fun r hr => by omega) ⟨fun a b q => ?_, t3⟩ (fun b => ?_)
  · rw [mm1 (by omega), t2 a b (by omega)]
  · rw [mm1 (by omega), t2 _ _ (by omega)]
theorem m_soWith {h w v : Nat} {σ : Mem} {A : Nat → Nat} {Q : Int32 → Mem → Prop} (hR : Rl (σ.1 65) A) (hS : SL (σ.1 65) A) (h2 : 2 ≤ A 24) (hh : h < A 24) (hv : okT w v)
    (h1 : fitP A (setA A (4 * h + w) v) → ∀ τ : Mem, KM σ τ → (∀ b, τ.1 73 b = σ.1 73 b) → (∀ r, r < 20 → τ.1 72 (r + 1) = nI (itA r (setA A (4 * h + w) v) 26)) → Q 1 τ)
    (h0 : ¬ fitP A (setA A (4 * h + w) v) → ∀ τ : Mem, KM σ τ → (∀ b, τ.1 73 b = σ.1 73 b) → Q 0 τ) : wp_X6_isSoWith (nI h) (nI w) (nI v) σ Q := by
  have w6 := hR.1.1
  have hw : w < 4 := by unfold okT at hv; omega
  obtain ⟨⟨ws1, ws2⟩, sn, ss⟩ := hS
  intro P14 P49 P104 P105 h14 h49 h104 h105
  simp only [tc36, show (37 : Int32) = nI 37 from rfl, show (2 : Int32) = nI 2 from rfl] at h49
  have W' := hR.1.set hh hv
  have e24 : setA A (4 * h + w) v 24 = A 24 := setA_ne (by omega)
  have loop2 : ∀ τ : Mem, KM σ τ → (∀ b, τ.1 73 b = σ.1 73 b) → (∀ r, r < 20 → τ.1 72 (r + 1) = nI (itA r (setA A (4 * h + w) v) 26)) → ∀ m j : Nat, ∀ x : Int32, j + m = A 36 → ((x = 1 ∧ ∀ i, i < j → nI (itA (A (37 + 2 * i) - 1) (setA A (4 * h + w) v) 26) = nI (A (38 + 2 * i))) ∨ (x = 0 ∧ ¬ fitP A (setA A (4 * h + w) v))) → P49 x (nI j) τ := by
    intro τ k g5 gk m
    have e65 : ∀ b, τ.1 65 b = σ.1 65 b := fun b => k 65 b (by omega) (by omega) (by omega) (by omega) (by omega) (by omega)
    induction m with
    | zero =>
      intro j x hj g
      apply h49
      rw [e65, sn]
      refine pk_le (A 36) j (fun _ => ?_) (fun q => by omega)
      rcases g with ⟨rfl, g⟩ | ⟨rfl, g⟩
      · exact ⟨Or.inr rfl, h1 (fun i hi => g i (by omega)) τ k g5 gk⟩
      · exact ⟨Or.inl rfl, h0 g τ k g5⟩
    | succ m ih =>
      intro j x hj g
      apply h49
      rw [e65, sn]
      refine pk_le (A 36) j (fun q => by omega) (fun _ => ?_)
      have bad : ¬ fitP A (setA A (4 * h + w) v) → P104 (nI j) τ := by
        intro hs
        refine h104 _ _ (h105 _ _ _ ?_)
        rintro _ rfl
        rw [nI_1]
        exact ih (j + 1) 0 (by omega) (Or.inr ⟨rfl, hs⟩)
      rcases g with ⟨rfl, g⟩ | ⟨rfl, g⟩
      · refine b11 ?_
        obtain ⟨b1, b2⟩ := ws2 j (by omega)
        obtain ⟨s1, s2⟩ := ss j (by omega)
        rw [pk_mul, nI_add, nI_1, nI_clamp (show 37 + 2 * j < 2 ^ 31 by omega), nI_clamp (show 37 + 2 * j + 1 < 2 ^ 31 by omega), e65, e65, s1, show 37 + 2 * j + 1 = 38 + 2 * j by omega, s2, nI_clamp (show A (37 + 2 * j) < 2 ^ 31 by omega)]
        have gj := gk (A (37 + 2 * j) - 1) (by omega)
        rw [show A (37 + 2 * j) - 1 + 1 = A (37 + 2 * j) by omega] at gj
        rw [gj]
        refine ⟨pk_in (37 + 2 * j) 147 (by omega), pk_in (A (37 + 2 * j)) 21 (by omega), pk_in (38 + 2 * j) 147 (by omega), fun q => ?_, fun q => ?_⟩
        · exact bad (fun hf => q (hf j (by omega)))
        · refine h105 _ _ _ ?_
          rintro _ rfl
          rw [nI_1]
          exact ih (j + 1) 1 (by omega) (Or.inl ⟨rfl, fun i hi => by
            rcases Nat.lt_or_eq_of_le (Nat.le_of_lt_succ hi) with h | h
            · exact g i h
            · rw [h]; exact q⟩)
      · exact b01 (bad g)
  have loop1 : ∀ m j : Nat, ∀ τ : Mem, j + m = 20 → Rl (τ.1 66) (itA j (setA A (4 * h + w) v)) → (∀ r, r < j → τ.1 72 (r + 1) = nI (itA r (setA A (4 * h + w) v) 26)) → KM σ τ → (∀ b, τ.1 73 b = σ.1 73 b) → P14 (nI (j + 1)) τ := by
    intro m
    induction m with
    | zero =>
      intro j τ hj g1 g2 g4 g5
      apply h14
      refine pk_lt 20 (j + 1) (fun _ => ?_) (fun q => by omega)
      exact loop2 τ g4 g5 (fun r hr => g2 r (by omega)) (A 36) 0 1 (by omega) (Or.inl ⟨rfl, fun i hi => by omega⟩)
    | succ m ih =>
      intro j τ hj g1 g2 g4 g5
      apply h14
      refine pk_lt 20 (j + 1) (fun q => by omega) (fun _ => ?_)
      refine m_reign0 g1 (by rw [(it_wf W' (by omega) j).2]; omega) (fun υ u1 u8 _ _ u2 => ?_)
      refine ⟨pk_in (j + 1) 21 (by omega), ?_⟩
      rintro _ rfl _ rfl
      rw [nI_clamp (show j + 1 < 2 ^ 31 by omega), nI_1, u8]
      refine ih (j + 1) _ (by omega) (u1.fr (fun k _ => mm1 (by omega))) (fun r hr => ?_) ((g4.tr u2.km).st71 (by omega)) (fun b => ?_)
      · rw [st1_get]
        by_cases e : r = j
        · rw [if_pos ⟨rfl, by omega⟩, e]
        · rw [if_neg (by omega), u2.1 _ _ (by omega) (by omega)]
          exact g2 r (by omega)
      · rw [mm1 (by omega), u2.1 _ _ (by omega) (by omega)]
        exact g5 b
  refine m_starts (fun τ t1 t2 _ => ?_)
  refine m_becOf (by omega) ?_
  have hT : Rl (τ.1 66) A := hR.fr (fun k hk => t1 k (by omega))
  refine loop1 20 0 _ (by omega) (hT.setT hh hv) (fun r hr => by omega) (fun a b p1 _ _ _ _ _ => ?_) (fun b => ?_)
  · rw [mm1 p1, t2 a b p1]
  · rw [mm1 (by omega), t2 _ _ (by omega)]
/-! kinds, springs -/
noncomputable def fitB (A : Nat → Nat) (h w : Nat) : Nat → Nat → Int32 → Int32
  | 0, _, x => x
  | m + 1, v, x => fitB A h w m (v + 1) (cs (fitP A (setA A (4 * h + w) v)) (x ||| ((1 : Int32) <<< (nI v &&& 31))) x)
theorem shl0 : ∀ v : Nat, v < 21 → (0 : Int32) <<< (nI v &&& 31) = 0 := by decide +kernel
theorem or0 (x : Int32) : x ||| 0 = x := by
  apply Int32.toBitVec_inj.mp
  simp
noncomputable def aKinds (A : Nat → Nat) (a : Int32) : Int32 := ans (hc A a) A (fitB A a.toNatClampNeg 0 4 0 0)
noncomputable def aSprings (A : Nat → Nat) (a : Int32) : Int32 := ans (hc A a) A (fitB A a.toNatClampNeg 1 21 0 0)
theorem x_fitting {h w n : Nat} {σ : Mem} {A : Nat → Nat} {Q : Int32 → Mem → Prop} (hR : RX σ 12 A) (hS : SX σ 26 A) (h2 : 2 ≤ A 24) (hh : h < A 24) (hw : w < 4) (hn : n < 21) (hg : tGreat.getD w 0 = nI n) (hv : ∀ v, v ≤ n → okT w v)
    (hQ : ∀ τ : Mem, KX σ τ → Q (fitB A h w (n + 1) 0 0) τ) : wp_X5_fitting (nI h) (nI w) σ Q := by
  intro P5 P33 h5 h33
  rw [nI_clamp (show w < 2 ^ 31 by omega), hg] at h5
  have key : ∀ m j : Nat, ∀ x : Int32, ∀ τ : Mem, j + m = n + 1 → fitB A h w m j x = fitB A h w (n + 1) 0 0 → KX σ τ → P5 x (nI j) τ := by
    intro m
    induction m with
    | zero =>
      intro j x τ hj g1 g4
      refine h5 _ _ _ ⟨pk_in w 4 hw, ?_⟩
      refine pk_lt n j (fun _ => ?_) (fun q => by omega)
      have := hQ τ g4
      rw [← g1] at this
      exact this
    | succ m ih =>
      intro j x τ hj g1 g4
      refine h5 _ _ _ ⟨pk_in w 4 hw, ?_⟩
      refine pk_lt n j (fun q => by omega) (fun _ => ?_)
      have go : ∀ (y : Int32) (υ : Mem), KX σ υ → y = cs (fitP A (setA A (4 * h + w) j)) (x ||| ((1 : Int32) <<< (nI j &&& 31))) x → P33 y (nI j) υ := by
        rintro _ υ k rfl
        refine h33 _ _ _ ?_
        rintro _ rfl
        rw [nI_1]
        exact ih (j + 1) _ υ (by omega) g1 k
      refine x_asSeen (hR.now g4) (hS.fr (fun a b q1 q2 => g4.1 a b (by omega))) h2 hh (hv j (by omega)) (fun hf υ k _ _ => b11 ?_) (fun hf υ k _ => b01 (go _ υ (g4.tr k) (cs_f hf).symm))
      rintro _ rfl
      exact go _ υ (g4.tr k) (cs_t hf).symm
  exact key (n + 1) 0 0 σ (by omega) rfl KX.rf
theorem x_kinds {a : Int32} {σ : Mem} {A : Nat → Nat} {Q : Int32 → Mem → Prop} (hR : RX σ 12 A) (hS : SX σ 26 A) (hQ : ∀ τ : Mem, KX σ τ → Q (aKinds A a) τ) : wp_X5_kinds a σ Q := by
  have w := hR.1.1
  refine x_isHeir hR.2.1 (fun h => ?_) (fun h => ?_)
  · refine x_ref hR (fun _ => ?_) (fun q => absurd rfl q) (fun q => absurd rfl q)
    have := hQ σ KX.rf
    rw [show aKinds A a = -1 from ans_bad h] at this
    exact this
  refine x_ref hR (fun q => absurd q (by decide)) (fun _ q => ?_) (fun _ h2 => ?_)
  · have := hQ σ KX.rf
    rw [show aKinds A a = -2 from ans_two h q] at this
    exact this
  obtain ⟨g, hg, rfl⟩ := hc_of w h
  refine x_fitting (w := 0) (n := 3) hR hS h2 hg (by omega) (by omega) rfl (fun v hv => by unfold okT; omega) (fun τ t => ?_)
  have := hQ τ t
  rw [show aKinds A (nI g) = _ from ans_yes h h2, nI_clamp (by omega)] at this
  exact this
theorem x_springs {a : Int32} {σ : Mem} {A : Nat → Nat} {Q : Int32 → Mem → Prop} (hR : RX σ 12 A) (hS : SX σ 26 A) (hQ : ∀ τ : Mem, KX σ τ → Q (aSprings A a) τ) : wp_X5_springs a σ Q := by
  have w := hR.1.1
  refine x_isHeir hR.2.1 (fun h => ?_) (fun h => ?_)
  · refine x_ref hR (fun _ => ?_) (fun q => absurd rfl q) (fun q => absurd rfl q)
    have := hQ σ KX.rf
    rw [show aSprings A a = -1 from ans_bad h] at this
    exact this
  refine x_ref hR (fun q => absurd q (by decide)) (fun _ q => ?_) (fun _ h2 => ?_)
  · have := hQ σ KX.rf
    rw [show aSprings A a = -2 from ans_two h q] at this
    exact this
  obtain ⟨g, hg, rfl⟩ := hc_of w h
  refine x_fitting (w := 1) (n := 20) hR hS h2 hg (by omega) (by omega) rfl (fun v hv => by unfold okT; omega) (fun τ t => ?_)
  have := hQ τ t
  rw [show aSprings A (nI g) = _ from ans_yes h h2, nI_clamp (by omega)] at this
  exact this
theorem m_flag1 {σ : Mem} {Q : Int32 → Mem → Prop} (h : Q 1 σ) : wp_X6_flag 1 σ Q := b11 h
theorem m_flag0 {σ : Mem} {Q : Int32 → Mem → Prop} (h : Q 0 σ) : wp_X6_flag 0 σ Q := b01 h
theorem m_kinds {a : Int32} {σ : Mem} {A : Nat → Nat} {Q : Int32 → Mem → Prop} (hR : Rl (σ.1 65) A) (hS : SL (σ.1 65) A) (hQ : ∀ τ : Mem, KM σ τ → Q (aKinds A a) τ) : wp_X6_kinds a σ Q := by
  have w := hR.1.1
  intro P24 h24
  refine m_heir hR.2.1 (fun h => b00 ?_) (fun h => b10 ?_)
  · have := hQ σ KM.rf
    rw [show aKinds A a = -1 from ans_bad h] at this
    exact this
  refine m_twoR hR (fun q => b00 ?_) (fun h2 => b10 ?_)
  · have := hQ σ KM.rf
    rw [show aKinds A a = -2 from ans_two h q] at this
    exact this
  obtain ⟨g, hg, rfl⟩ := hc_of w h
  have key : ∀ m j : Nat, ∀ x : Int32, ∀ τ : Mem, j + m = 4 → fitB A g 0 m j x = fitB A g 0 4 0 0 → KM σ τ → P24 x (nI j) τ := by
    intro m
    induction m with
    | zero =>
      intro j x τ hj g1 g4
      apply h24
      refine pk_le 4 j (fun _ => ?_) (fun q => by omega)
      have := hQ τ g4
      rw [show aKinds A (nI g) = _ from ans_yes h h2, nI_clamp (by omega), ← g1] at this
      exact this
    | succ m ih =>
      intro j x τ hj g1 g4
      apply h24
      refine pk_le 4 j (fun q => by omega) (fun _ => ?_)
      have k65 : ∀ b, τ.1 65 b = σ.1 65 b := fun b => g4 65 b (by omega) (by omega) (by omega) (by omega) (by omega) (by omega)
      refine m_soWith (w := 0) (hR.now g4) (hS.fr (fun b _ _ => k65 b)) h2 hg (by unfold okT; omega) (fun hf υ k _ _ => m_flag1 ?_) (fun hf υ k _ => m_flag0 ?_)
      · rintro _ rfl _ rfl
        rw [nI_1]
        exact ih (j + 1) _ υ (by omega) (by rw [← g1]; exact congrArg (fitB A g 0 m (j + 1)) (cs_t hf).symm) (g4.tr k)
      · rintro _ rfl _ rfl
        rw [nI_1, shl0 j (by omega), or0]
        exact ih (j + 1) _ υ (by omega) (by rw [← g1]; exact congrArg (fitB A g 0 m (j + 1)) (cs_f hf).symm) (g4.tr k)
  exact key 4 0 0 σ (by omega) rfl KM.rf
theorem m_springs {a : Int32} {σ : Mem} {A : Nat → Nat} {Q : Int32 → Mem → Prop} (hR : Rl (σ.1 65) A) (hS : SL (σ.1 65) A) (hQ : ∀ τ : Mem, KM σ τ → Q (aSprings A a) τ) : wp_X6_springs a σ Q := by
  have w := hR.1.1
  intro P24 h24
  refine m_heir hR.2.1 (fun h => b00 ?_) (fun h => b10 ?_)
  · have := hQ σ KM.rf
    rw [show aSprings A a = -1 from ans_bad h] at this
    exact this
  refine m_twoR hR (fun q => b00 ?_) (fun h2 => b10 ?_)
  · have := hQ σ KM.rf
    rw [show aSprings A a = -2 from ans_two h q] at this
    exact this
  obtain ⟨g, hg, rfl⟩ := hc_of w h
  have key : ∀ m j : Nat, ∀ x : Int32, ∀ τ : Mem, j + m = 21 → fitB A g 1 m j x = fitB A g 1 21 0 0 → KM σ τ → P24 x (nI j) τ := by
    intro m
    induction m with
    | zero =>
      intro j x τ hj g1 g4
      apply h24
      refine pk_lt 20 j (fun _ => ?_) (fun q => by omega)
      have := hQ τ g4
      rw [show aSprings A (nI g) = _ from ans_yes h h2, nI_clamp (by omega), ← g1] at this
      exact this
    | succ m ih =>
      intro j x τ hj g1 g4
      apply h24
      refine pk_lt 20 j (fun q => by omega) (fun _ => ?_)
      have k65 : ∀ b, τ.1 65 b = σ.1 65 b := fun b => g4 65 b (by omega) (by omega) (by omega) (by omega) (by omega) (by omega)
      refine m_soWith (w := 1) (hR.now g4) (hS.fr (fun b _ _ => k65 b)) h2 hg (by unfold okT; omega) (fun hf υ k _ _ => m_flag1 ?_) (fun hf υ k _ => m_flag0 ?_)
      · rintro _ rfl _ rfl
        rw [nI_1]
        exact ih (j + 1) _ υ (by omega) (by rw [← g1]; exact congrArg (fitB A g 1 m (j + 1)) (cs_t hf).symm) (g4.tr k)
      · rintro _ rfl _ rfl
        rw [nI_1, shl0 j (by omega), or0]
        exact ih (j + 1) _ υ (by omega) (by rw [← g1]; exact congrArg (fitB A g 1 m (j + 1)) (cs_f hf).symm) (g4.tr k)
  exact key 21 0 0 σ (by omega) rfl KM.rf
/-! see, forget -/
def seeA (A : Nat → Nat) (n h : Nat) : Nat → Nat := setA (setA (setA A (37 + 2 * A 36) n) (38 + 2 * A 36) h) 36 (A 36 + 1)
theorem see_ws {A : Nat → Nat} {n h : Nat} (W : WS A) (h6 : A 36 < 6) (hn : 1 ≤ n ∧ n ≤ 20) : WS (seeA A n h) := by
  have e : seeA A n h 36 = A 36 + 1 := setA_eq
  refine ⟨by rw [e]; omega, fun i hi => ?_⟩
  rw [e] at hi
  unfold seeA
  rw [setA_ne (by omega), setA_ne (by omega)]
  by_cases q : i = A 36
  · subst q
    rw [setA_eq]
    exact hn
  · rw [setA_ne (by omega)]
    exact W.2 i (by omega)
theorem see_lo {A : Nat → Nat} {n h k : Nat} (hk : k < 36) : seeA A n h k = A k := by
  unfold seeA
  rw [setA_ne (by omega), setA_ne (by omega), setA_ne (by omega)]
theorem x_see {a b : Int32} {σ : Mem} {A : Nat → Nat} {Q : Int32 → Mem → Prop} (hR : RX σ 12 A) (hS : SX σ 26 A) (h0 : ¬ (wc 1 20 a ∧ hc A b) → Q (-1) σ) (h1 : wc 1 20 a ∧ hc A b → A 36 = 6 → Q (-3) σ)
    (h2 : ∀ n h, a = nI n → b = nI h → 1 ≤ n ∧ n ≤ 20 → h < A 24 → A 36 < 6 → ∀ τ : Mem, SX τ 26 (seeA A n h) → (∀ x y, (x < 26 ∨ 29 ≤ x) → τ.1 x y = σ.1 x y) → τ.2 = σ.2 → Q (nI (A 36 + 1)) τ) : wp_X5_see a b σ Q := by
  have w6 := hR.1.1
  have s6 := hS.1.1
  refine x_wi (fun h => b01 (h0 (fun q => h q.1))) (fun ha => b11 ?_)
  refine x_isHeir hR.2.1 (fun h => b00 (h0 (fun q => h q.2))) (fun hb => b10 ?_)
  unfold wp_X3_add
  rw [hS.2.1]
  obtain ⟨n, n1, n2, rfl⟩ := wc1_of (n := 20) rfl (by omega) ha
  obtain ⟨h, hh, rfl⟩ := hc_of w6 hb
  refine pk_lt (A 36) 6 (fun h6 => ?_) (fun h6 => b01 (h1 ⟨ha, hb⟩ (by omega)))
  have hc2 := nI_clamp (n := A 36) (by omega)
  refine ⟨pk_in (A 36) 6 h6, ?_⟩
  rintro _ rfl
  rw [mm1 (by omega), hS.2.1, hc2]
  refine ⟨pk_in (A 36) 6 h6, ?_⟩
  rintro _ rfl
  rw [mm1 (by omega), mm1 (by omega), hS.2.1, nI_1]
  rintro _ rfl
  refine b11 ?_
  rw [mm3]
  have e : seeA A n h 36 = A 36 + 1 := setA_eq
  refine h2 n h rfl rfl ⟨n1, n2⟩ hh h6 _ ⟨see_ws hS.1 h6 ⟨n1, n2⟩, ?_, ?_⟩ (fun x y q => ?_) rfl
  · rw [mm3, e]
  · intro i hi
    rw [e] at hi
    unfold seeA
    by_cases q : i = A 36
    · subst q
      refine ⟨?_, ?_⟩
      · rw [mm1 (by omega), mm1 (by omega), mm3, setA_ne (by omega), setA_ne (by omega), setA_eq]
      · rw [mm1 (by omega), mm3, setA_ne (by omega), setA_eq]
    · have := hS.2.2 i (by omega)
      refine ⟨?_, ?_⟩
      · rw [mm1 (by omega), mm1 (by omega), mm2 q, setA_ne (by omega), setA_ne (by omega), setA_ne (by omega)]
        exact this.1
      · rw [mm1 (by omega), mm2 q, mm1 (by omega), setA_ne (by omega), setA_ne (by omega), setA_ne (by omega)]
        exact this.2
  · rw [mm1 (by omega), mm1 (by omega), mm1 (by omega)]
theorem m_see {a b : Int32} {σ : Mem} {A : Nat → Nat} {Q : Int32 → Mem → Prop} (hR : Rl (σ.1 65) A) (hS : SL (σ.1 65) A) (h0 : ¬ (wc 1 20 a ∧ hc A b) → Q (-1) σ) (h1 : wc 1 20 a ∧ hc A b → A 36 = 6 → Q (-3) σ)
    (h2 : ∀ n h, a = nI n → b = nI h → 1 ≤ n ∧ n ≤ 20 → h < A 24 → A 36 < 6 → ∀ τ : Mem, SL (τ.1 65) (seeA A n h) → (∀ y, (y < 36 ∨ 49 ≤ y) → τ.1 65 y = σ.1 65 y) → (∀ x y, x ≠ 65 → τ.1 x y = σ.1 x y) → Q (nI (A 36 + 1)) τ) : wp_X6_see a b σ Q := by
  have w6 := hR.1.1
  have s6 := hS.1.1
  refine m_wi 1 20 rfl rfl (fun h => b01 (h0 (fun q => h q.1))) (fun ha => b11 ?_)
  refine m_heir hR.2.1 (fun h => b00 (h0 (fun q => h q.2))) (fun hb => b10 ?_)
  rw [tc36, hS.2.1]
  refine ⟨fun z => ?_, fun z => h1 ⟨ha, hb⟩ ((nI_eq (b := 6) (by omega) (by omega)).mp z)⟩
  have h6 : A 36 < 6 := by
    rcases Nat.lt_or_ge (A 36) 6 with h | h
    · exact h
    · exact absurd (by rw [show A 36 = 6 by omega]; rfl) z
  obtain ⟨n, n1, n2, rfl⟩ := wc1_of (n := 20) rfl (by omega) ha
  obtain ⟨h, hh, rfl⟩ := hc_of w6 hb
  rintro _ rfl
  rw [show (37 : Int32) = nI 37 from rfl, show (2 : Int32) = nI 2 from rfl, pk_mul, nI_add, nI_1, nI_clamp (show 37 + 2 * A 36 < 2 ^ 31 by omega), nI_clamp (show 37 + 2 * A 36 + 1 < 2 ^ 31 by omega)]
  refine ⟨pk_in (37 + 2 * A 36) 147 (by omega), ?_⟩
  rintro _ rfl
  refine ⟨pk_in (37 + 2 * A 36 + 1) 147 (by omega), ?_⟩
  rintro _ rfl
  rw [mm2 (by omega), mm2 (by omega), hS.2.1, nI_1]
  rintro _ rfl
  rw [mm3]
  have e : seeA A n h 36 = A 36 + 1 := setA_eq
  refine h2 n h rfl rfl ⟨n1, n2⟩ hh h6 _ ⟨see_ws hS.1 h6 ⟨n1, n2⟩, ?_, ?_⟩ (fun y q => ?_) (fun x y q => ?_)
  · rw [mm3, e]
  · intro i hi
    rw [e] at hi
    unfold seeA
    by_cases q : i = A 36
    · subst q
      refine ⟨?_, ?_⟩
      · rw [mm2 (by omega), mm2 (by omega), mm3, setA_ne (by omega), setA_ne (by omega), setA_eq]
      · rw [mm2 (by omega), show 38 + 2 * A 36 = 37 + 2 * A 36 + 1 by omega, mm3, setA_ne (by omega), setA_eq]
    · have := hS.2.2 i (by omega)
      refine ⟨?_, ?_⟩
      · rw [mm2 (by omega), mm2 (by omega), mm2 (by omega), setA_ne (by omega), setA_ne (by omega), setA_ne (by omega)]
        exact this.1
      · rw [mm2 (by omega), mm2 (by omega), mm2 (by omega), setA_ne (by omega), setA_ne (by omega), setA_ne (by omega)]
        exact this.2
  · rw [mm2 (by omega), mm2 (by omega), mm2 (by omega)]
  · rw [mm1 q, mm1 q, mm1 q]
theorem fgt_ws {A : Nat → Nat} {n : Nat} (W : WS A) (hn : n ≤ A 36) : WS (setA A 36 n) := by
  have w := W.1
  refine ⟨by rw [setA_eq]; omega, fun i hi => ?_⟩
  rw [setA_eq] at hi
  rw [setA_ne (by omega)]
  exact W.2 i (by omega)
theorem x_forget {a : Int32} {σ : Mem} {A : Nat → Nat} {Q : Int32 → Mem → Prop} (hS : SX σ 26 A) (h0 : ¬ wc 0 (nI (A 36)) a → Q (-1) σ) (h1 : ∀ n, n ≤ A 36 → a = nI n → Q (nI (A 36)) (st1 σ 26 2 (nI n))) : wp_X5_forget a σ Q := by
  have s6 := hS.1.1
  unfold wp_X5_forget
  rw [hS.2.1]
  refine x_wi (fun h => b00 (h0 h)) (fun h => b10 ?_)
  obtain ⟨n, hn, rfl⟩ := wc_of (n := A 36) rfl (by omega) h
  rintro _ rfl _ rfl
  rw [hS.2.1]
  exact h1 n hn rfl
theorem m_forget {a : Int32} {σ : Mem} {A : Nat → Nat} {Q : Int32 → Mem → Prop} (hS : SL (σ.1 65) A) (h0 : ¬ wc 0 (nI (A 36)) a → Q (-1) σ) (h1 : ∀ n, n ≤ A 36 → a = nI n → Q (nI (A 36)) (st1 σ 65 36 (nI n))) : wp_X6_forget a σ Q := by
  have s6 := hS.1.1
  unfold wp_X6_forget
  rw [tc36, hS.2.1]
  refine m_wi 0 (nI (A 36)) rfl rfl (fun h => b01 (h0 h)) (fun h => b11 ?_)
  obtain ⟨n, hn, rfl⟩ := wc_of (n := A 36) rfl (by omega) h
  refine m_bec (k := 36) (by omega) ?_
  rw [hS.2.1]
  exact h1 n hn rfl
