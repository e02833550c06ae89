/-! builder -/
noncomputable def ybA (A : Nat → Nat) : Nat → Nat → Nat
  | 0 => fun _ => 0
  | n + 1 => fun h => ybA A n h + cs (odd32 (itA n A 33 + 1) ∧ h = itA n A 26) (spanA (itA n A) false) 0
theorem span_le {A : Nat → Nat} {s : Bool} (W : WF A) (h2 : 2 ≤ A 24) : spanA A s ≤ 30 := by
  have b1 := W.2.2.1 1 (by omega)
  simp only [Nat.reduceAdd] at b1
  have bt := (W.2.1 (A 26) b1).2.2.2.2
  unfold spanA
  split <;> omega
theorem yb_le {A : Nat → Nat} (W : WF A) (h2 : 2 ≤ A 24) : ∀ n h, ybA A n h ≤ 30 * n := by
  intro n
  induction n with
  | zero => intro h; exact Nat.le_refl _
  | succ n ih =>
    intro h
    have wn := it_wf W h2 n
    have := span_le (s := false) wn.1 (by omega)
    have := ih h
    show ybA A n h + cs _ _ _ ≤ _
    by_cases q : odd32 (itA n A 33 + 1) ∧ h = itA n A 26
    · rw [cs_t q]; omega
    · rw [cs_f q]; omega
theorem yb_out {A : Nat → Nat} (W : WF A) (h2 : 2 ≤ A 24) : ∀ n h, A 24 ≤ h → ybA A n h = 0 := by
  intro n
  induction n with
  | zero => intro h _; rfl
  | succ n ih =>
    intro h hh
    have wn := it_wf W h2 n
    have b1 := wn.1.2.2.1 1 (by omega)
    simp only [Nat.reduceAdd] at b1
    show ybA A n h + cs _ _ _ = 0
    rw [ih h hh, cs_f (fun q => by omega)]
/-- the first with most -/
noncomputable def mxA (y : Nat → Nat) : Nat → Nat → Nat → Nat
  | 0, _, x => x
  | m + 1, h, x => mxA y m (h + 1) (cs (y h ≤ y x) x h)
theorem mx_more {y : Nat → Nat} : ∀ (m h x k : Nat), (∀ j, h + m ≤ j → y j = 0) → mxA y (m + k) h x = mxA y m h x := by
  intro m
  induction m with
  | zero =>
    intro h x k hk
    rw [Nat.zero_add]
    show mxA y k h x = x
    induction k generalizing h with
    | zero => rfl
    | succ k ih =>
      show mxA y k (h + 1) (cs (y h ≤ y x) x h) = x
      rw [cs_t (by rw [hk h (by omega)]; exact Nat.zero_le _)]
      exact ih (h + 1) (fun j hj => hk j (by omega))
  | succ m ih =>
    intro h x k hk
    rw [show m + 1 + k = m + k + 1 by omega]
    exact ih (h + 1) _ k (fun j hj => hk j (by omega))
theorem mx_lt {y : Nat → Nat} : ∀ (m h x n : Nat), x < n → h + m ≤ n → mxA y m h x < n := by
  intro m
  induction m with
  | zero => intro h x n hx _; exact hx
  | succ m ih =>
    intro h x n hx hh
    refine ih (h + 1) _ n ?_ (by omega)
    by_cases q : y h ≤ y x
    · rw [cs_t q]; exact hx
    · rw [cs_f q]; omega
noncomputable def wBld (A : Nat → Nat) (n : Nat) : Nat := mxA (ybA A n) (A 24 - 1) 1 0
noncomputable def aBuilder (A : Nat → Nat) (a b : Int32) : Int32 := ans (wc 1 60 a ∧ wc 0 1 b) A (cs (b = 0) (nI (wBld A a.toNatClampNeg)) (nI (ybA A a.toNatClampNeg (wBld A a.toNatClampNeg))))
theorem wc1_of {n : Nat} {hi a : Int32} (hh : hi = nI n) (hn : n < 2 ^ 30) (h : wc 1 hi a) : ∃ j, 1 ≤ j ∧ j ≤ n ∧ a = nI j := by
  obtain ⟨j, hj, rfl⟩ := wc_of hh hn ⟨Int32.le_trans (by decide) h.1, h.2⟩
  refine ⟨j, ?_, hj, rfl⟩
  have := h.1
  rw [show (1 : Int32) = nI 1 from rfl, nI_leI (by omega) (by omega)] at this
  exact this
theorem KX.st {σ τ : Mem} {k j : Nat} {v : Int32} (h : KX σ τ) (hk : 61 ≤ k ∧ k < 64) : KX σ (st1 τ k j v) := ⟨fun a b q => by
  rw [mm1 (by omega)]
  exact h.1 a b q, h.2⟩
theorem x_count {n : Nat} {σ : Mem} {A : Nat → Nat} {Q : Mem → Prop} (hR : RX σ 12 A) (h2 : 2 ≤ A 24) (hn : n ≤ 60) (hQ : ∀ τ : Mem, KX σ τ → (∀ h, h < 6 → τ.1 62 h = nI (ybA A n h)) → Q τ) : wp_X5_countBuilding (nI n) σ Q := by
  have w := hR.1.1
  intro P13 P34 P79 h13 h34 h79
  have k2 : ∀ m j : Nat, ∀ τ : Mem, j + m = n → RX τ 19 (itA j A) → (∀ h, h < 6 → τ.1 62 h = nI (ybA A j h)) → KX σ τ → P34 (nI j) τ := by
    intro m
    induction m with
    | zero =>
      intro j τ hj g1 g2 g4
      apply h34
      refine pk_le n j (fun _ => ?_) (fun q => by omega)
      rw [show j = n by omega] at g2
      exact hQ τ g4 g2
    | succ m ih =>
      intro j τ hj g1 g2 g4
      apply h34
      refine pk_le n j (fun q => by omega) (fun _ => ?_)
      have wj := it_wf hR.1 h2 j
      have b1 := wj.1.2.2.1 1 (by omega)
      simp only [Nat.reduceAdd] at b1
      refine x_crown0 g1 (by omega) (fun υ u1 u8 u9 _ o1 o0 u2 u3 => ?_)
      have k := g4.tr (KX.of u2 u3)
      have e62 : ∀ h, υ.1 62 h = τ.1 62 h := fun h => u2 62 h (by omega)
      by_cases ho : odd32 (itA j A 33 + 1)
      · rw [o1 ho, u8, u9]
        refine b11 ⟨pk_in (itA j A 26) 6 (by omega), pk_in (itA j A 26) 6 (by omega), ?_⟩
        rintro _ rfl
        rw [nI_clamp (show itA j A 26 < 2 ^ 31 by omega), e62, g2 _ (by omega), nI_add]
        refine h79 _ _ ?_
        rintro _ rfl
        rw [nI_1]
        refine ih (j + 1) _ (by omega) (u1.fr (fun a b q1 q2 q3 => mm1 (by omega))) (fun h hh => ?_) (k.st (by omega))
        rw [st1_get]
        show _ = nI (ybA A j h + cs _ _ _)
        by_cases e : h = itA j A 26
        · rw [if_pos ⟨rfl, e⟩, cs_t ⟨ho, e⟩, e]
        · rw [if_neg (by omega), cs_f (fun q => e q.2), e62]
          exact g2 h hh
      · rw [o0 ho]
        refine b01 ?_
        refine h79 _ _ ?_
        rintro _ rfl
        rw [nI_1]
        refine ih (j + 1) υ (by omega) u1 (fun h hh => ?_) k
        show _ = nI (ybA A j h + cs _ _ _)
        rw [cs_f (fun q => ho q.1), e62]
        exact g2 h hh
  have k1 : ∀ m j : Nat, ∀ τ : Mem, j + m = 6 → RX τ 19 A → (∀ h, h < j → τ.1 62 h = 0) → KX σ τ → P13 (nI j) τ := by
    intro m
    induction m with
    | zero =>
      intro j τ hj g1 g2 g4
      apply h13
      refine pk_le 6 j (fun _ => ?_) (fun q => by omega)
      exact k2 n 0 τ (by omega) g1 (fun h hh => by rw [g2 h (by omega)]; rfl) g4
    | succ m ih =>
      intro j τ hj g1 g2 g4
      apply h13
      refine pk_le 6 j (fun q => by omega) (fun _ => ?_)
      refine ⟨pk_in j 6 (by omega), ?_⟩
      rintro _ rfl _ rfl
      rw [nI_clamp (show j < 2 ^ 31 by omega), nI_1]
      refine ih (j + 1) _ (by omega) (g1.fr (fun a b q1 q2 q3 => mm1 (by omega))) (fun h hh => ?_) (g4.st (by omega))
      rw [st1_get]
      by_cases e : h = j
      · rw [if_pos ⟨rfl, e⟩]
      · rw [if_neg (by omega)]
        exact g2 h (by omega)
  exact x_try hR (fun τ t1 _ t2 => k1 6 0 τ (by omega) t1 (fun h hh => by omega) t2)
theorem x_builder {a b : Int32} {σ : Mem} {A : Nat → Nat} {Q : Int32 → Mem → Prop} (hR : RX σ 12 A) (hQ : ∀ τ : Mem, KX σ τ → Q (aBuilder A a b) τ) : wp_X5_builder a b σ Q := by
  have w := hR.1.1
  intro P22 P23 P44 P77 h22 h23 h44 h77
  have bad : ¬ (wc 1 60 a ∧ wc 0 1 b) → P22 σ := fun hn => by
    refine h22 _ (h23 _ _ ?_)
    refine x_ref hR (fun _ => ?_) (fun q => absurd rfl q) (fun q => absurd rfl q)
    have := hQ σ KX.rf
    rw [show aBuilder A a b = -1 from ans_bad hn] at this
    exact this
  refine x_wi (fun h => b01 (bad (fun q => h q.1))) (fun ha => b11 ?_)
  refine x_isWhich (fun h => b01 (bad (fun q => h q.2))) (fun hb => b11 ?_)
  apply h23
  refine x_ref hR (fun q => absurd q (by decide)) (fun _ q => ?_) (fun _ h2 => ?_)
  · have := hQ σ KX.rf
    rw [show aBuilder A a b = -2 from ans_two ⟨ha, hb⟩ q] at this
    exact this
  obtain ⟨n, hn1, hn, rfl⟩ := wc1_of (n := 60) rfl (by omega) ha
  refine x_count hR h2 hn (fun υ t y => ?_)
  have hQ' : Q (cs (b = 0) (nI (wBld A n)) (nI (ybA A n (wBld A n)))) υ := by
    have := hQ υ t
    rw [show aBuilder A (nI n) b = _ from ans_yes ⟨ha, hb⟩ h2, nI_clamp (by omega)] at this
    exact this
  have hy := yb_le hR.1 h2 n
  have key : ∀ m j x : Nat, j + m = A 24 → x < A 24 → mxA (ybA A n) m j x = wBld A n → P44 (nI x) (nI j) υ := by
    intro m
    induction m with
    | zero =>
      intro j x hj hx g1
      apply h44
      rw [(hR.now t).2.1]
      refine pk_le (A 24) j (fun _ => ?_) (fun q => by omega)
      refine ⟨pk_in x 6 (by omega), x_wom ?_⟩
      rw [cs_f (nI_m4 (by omega)), nI_clamp (show x < 2 ^ 31 by omega), y x (by omega)]
      rw [← g1] at hQ'
      exact hQ'
    | succ m ih =>
      intro j x hj hx g1
      apply h44
      rw [(hR.now t).2.1]
      refine pk_le (A 24) j (fun q => by omega) (fun _ => ?_)
      refine ⟨pk_in j 6 (by omega), pk_in x 6 (by omega), ?_⟩
      have y1 := hy j
      have y2 := hy x
      rw [nI_clamp (show x < 2 ^ 31 by omega), nI_clamp (show j < 2 ^ 31 by omega), y x (by omega), y j (by omega)]
      have go : ∀ x', x' < A 24 → x' = cs (ybA A n j ≤ ybA A n x) x j → P77 (nI x') (nI j) υ := by
        intro x' hx' e
        refine h77 _ _ _ ?_
        rintro _ rfl
        rw [nI_1]
        exact ih (j + 1) x' (by omega) hx' (by rw [← g1, e]; rfl)
      exact pk_le (ybA A n j) (ybA A n x) (fun z => go x hx (cs_t z).symm) (fun z => go j (by omega) (cs_f (by omega)).symm)
  exact key (A 24 - 1) 1 0 (by omega) (by omega) rfl
theorem KM.st71 {σ τ : Mem} {k j : Nat} {v : Int32} (h : KM σ τ) (hk : k = 71 ∨ k = 72 ∨ k = 73 ∨ k = 77) : KM σ (st1 τ k j v) := fun a b p1 p2 p3 p4 p5 p6 => by
  rw [mm1 (by omega)]
  exact h a b p1 p2 p3 p4 p5 p6
theorem m_builder {a b : Int32} {σ : Mem} {A : Nat → Nat} {Q : Int32 → Mem → Prop} (hR : Rl (σ.1 65) A) (hQ : ∀ τ : Mem, KM σ τ → Q (aBuilder A a b) τ) : wp_X6_builder a b σ Q := by
  have w := hR.1.1
  intro P33 P58 P99 P112 P141 h33 h58 h99 h112 h141
  simp only [tc33] at h58
  have bad : ¬ (wc 1 60 a ∧ wc 0 1 b) → Q (-1) σ := fun hn => by
    have := hQ σ KM.rf
    rw [show aBuilder A a b = -1 from ans_bad hn] at this
    exact this
  refine m_wi 1 60 rfl rfl (fun h => b01 (bad (fun q => h q.1))) (fun ha => b11 ?_)
  refine m_part (fun h => b00 (bad (fun q => h q.2))) (fun hb => b10 ?_)
  refine m_twoR hR (fun q => b00 ?_) (fun h2 => b10 ?_)
  · have := hQ σ KM.rf
    rw [show aBuilder A a b = -2 from ans_two ⟨ha, hb⟩ q] at this
    exact this
  obtain ⟨n, hn1, hn, rfl⟩ := wc1_of (n := 60) rfl (by omega) ha
  have hy := yb_le hR.1 h2 n
  have k3 : ∀ m j x : Nat, ∀ τ : Mem, j + m = 6 → x < 6 → mxA (ybA A n) m j x = wBld A n → (∀ h, h < 6 → τ.1 71 h = nI (ybA A n h)) → KM σ τ → P112 (nI x) (nI j) τ := by
    intro m
    induction m with
    | zero =>
      intro j x τ hj hx g1 y g4
      apply h112
      refine pk_le 6 j (fun _ => ?_) (fun q => by omega)
      have hQ' := hQ τ g4
      rw [show aBuilder A (nI n) b = _ from ans_yes ⟨ha, hb⟩ h2, nI_clamp (show n < 2 ^ 31 by omega), ← g1] at hQ'
      change Q (cs (b = 0) (nI x) (nI (ybA A n x))) τ at hQ'
      refine ⟨fun q => ⟨pk_in x 6 hx, ?_⟩, fun q => ?_⟩
      · rw [cs_f q] at hQ'
        rw [nI_clamp (show x < 2 ^ 31 by omega), y x hx]
        exact hQ'
      · rw [cs_t q] at hQ'
        exact hQ'
    | succ m ih =>
      intro j x τ hj hx g1 y g4
      apply h112
      refine pk_le 6 j (fun q => by omega) (fun _ => ?_)
      refine ⟨pk_in j 6 (by omega), pk_in x 6 (by omega), ?_⟩
      have y1 := hy j
      have y2 := hy x
      rw [nI_clamp (show x < 2 ^ 31 by omega), nI_clamp (show j < 2 ^ 31 by omega), y x (by omega), y j (by omega)]
      have go : ∀ x', x' < 6 → x' = cs (ybA A n j ≤ ybA A n x) x j → P141 (nI j) (nI x') τ := by
        intro x' hx' e
        refine h141 _ _ _ ?_
        rintro _ rfl
        rw [nI_1]
        exact ih (j + 1) x' τ (by omega) hx' (by rw [← g1, e]; rfl) y g4
      exact pk_le (ybA A n j) (ybA A n x) (fun z => go x hx (cs_t z).symm) (fun z => go j (by omega) (cs_f (by omega)).symm)
  have k2 : ∀ m j : Nat, ∀ τ : Mem, j + m = n → Rl (τ.1 66) (itA j A) → (∀ h, h < 6 → τ.1 71 h = nI (ybA A j h)) → KM σ τ → P58 (nI j) τ := by
    intro m
    induction m with
    | zero =>
      intro j τ hj g1 g2 g4
      apply h58
      refine pk_le n j (fun _ => ?_) (fun q => by omega)
      rw [show j = n by omega] at g2
      refine k3 5 1 0 τ (by omega) (by omega) ?_ g2 g4
      have := mx_more (y := ybA A n) (A 24 - 1) 1 0 (6 - A 24) (fun j hj => yb_out hR.1 h2 n j (by omega))
      rw [show A 24 - 1 + (6 - A 24) = 5 by omega] at this
      exact this
    | succ m ih =>
      intro j τ hj g1 g2 g4
      apply h58
      refine pk_le n j (fun q => by omega) (fun _ => ?_)
      have wj := it_wf hR.1 h2 j
      have b1 := wj.1.2.2.1 1 (by omega)
      simp only [Nat.reduceAdd] at b1
      refine m_reign0 g1 (by omega) (fun υ u1 u8 u9 _ u2 => ?_)
      have k := g4.tr u2.km
      have e71 : ∀ h, υ.1 71 h = τ.1 71 h := fun h => u2.1 71 h (by omega) (by omega)
      have e33 : υ.1 66 33 = nI (itA j A 33 + 1) := by
        have := u1.2.2.2.2 33 (by omega) (by omega)
        rw [this]
        congr 1
        cases hf : fellA (itA j A) false
        · rw [crA_clean hf, bhd_hi (by rw [bhd_n (by rw [cntA_lo (by omega)]; omega), cntA_lo (by omega)]; exact wj.1.1) (by omega), bhd_hi (by rw [cntA_lo (by omega)]; exact wj.1.1) (by omega)]
          simp [cntA]
        · rw [crA_fell wj.1 (by omega) hf, setA_ne (by omega), bhd_hi (by rw [cntA_lo (by omega)]; exact wj.1.1) (by omega)]
          simp [cntA]
      rw [u8, u9, e33, nI_clamp (show itA j A 26 < 2 ^ 31 by omega), e71, g2 _ (by omega)]
      refine ⟨pk_in (itA j A 26) 6 (by omega), ?_⟩
      have go : ∀ z : Int32, (∀ h, h < 6 → (st1 υ 71 (itA j A 26) (nI (ybA A j (itA j A 26)) + z)).1 71 h = nI (ybA A (j + 1) h)) → P99 (nI j) z (nI (ybA A j (itA j A 26))) (nI (itA j A 26)) υ := by
        intro z hz
        refine h99 _ _ _ _ _ ⟨pk_in (itA j A 26) 6 (by omega), ?_⟩
        rintro _ rfl _ rfl
        rw [nI_clamp (show itA j A 26 < 2 ^ 31 by omega), nI_1]
        exact ih (j + 1) _ (by omega) (u1.fr (fun k _ => mm1 (by omega))) hz (k.st71 (by omega))
      refine ⟨fun q => go _ (fun h hh => ?_), fun q => go _ (fun h hh => ?_)⟩
      · have ho : ¬ odd32 (itA j A 33 + 1) := q
        rw [Int32.add_zero, st1_get]
        show _ = nI (ybA A j h + cs _ _ _)
        rw [cs_f (fun q => ho q.1), Nat.add_zero]
        by_cases e : h = itA j A 26
        · rw [if_pos ⟨rfl, e⟩, e]
        · rw [if_neg (by omega), e71]
          exact g2 h hh
      · have ho : odd32 (itA j A 33 + 1) := q
        rw [nI_add, st1_get]
        show _ = nI (ybA A j h + cs _ _ _)
        by_cases e : h = itA j A 26
        · rw [if_pos ⟨rfl, e⟩, cs_t ⟨ho, e⟩, e]
        · rw [if_neg (by omega), cs_f (fun q => e q.2), e71]
          exact g2 h hh
  have k1 : ∀ m j : Nat, ∀ τ : Mem, j + m = 6 → (∀ h, h < j → τ.1 71 h = 0) → KM σ τ → P33 (nI j) τ := by
    intro m
    induction m with
    | zero =>
      intro j τ hj g2 g4
      apply h33
      refine pk_le 6 j (fun _ => ?_) (fun q => by omega)
      refine m_starts (fun υ u1 u2 u3 => ?_)
      refine k2 n 0 υ (by omega) ((hR.now g4).fr (fun k hk => u1 k (by omega))) (fun h hh => ?_) (g4.tr (fun a b p1 _ _ _ _ _ => u2 a b p1))
      rw [u2 _ _ (by omega), g2 h (by omega)]
      rfl
    | succ m ih =>
      intro j τ hj g2 g4
      apply h33
      refine pk_le 6 j (fun q => by omega) (fun _ => ?_)
      refine ⟨pk_in j 6 (by omega), ?_⟩
      rintro _ rfl _ rfl
      rw [nI_clamp (show j < 2 ^ 31 by omega), nI_1]
      refine ih (j + 1) _ (by omega) (fun h hh => ?_) (g4.st71 (by omega))
      rw [st1_get]
      by_cases e : h = j
      · rw [if_pos ⟨rfl, e⟩]
      · rw [if_neg (by omega)]
        exact g2 h (by omega)
  exact k1 6 0 σ (by omega) (fun h hh => by omega) KM.rf
/-! drift -/
theorem bits_same (v : Int32) : (v.toUInt32 >>> ((16 : Int32).toUInt32 &&& Int32.toUInt32 31)).toInt32 &&& (32767 : Int32) = nI (v.toBitVec.toNat / 2 ^ 16 % 2 ^ 15) ∧ (v >>> ((16 : Int32) &&& 31)) &&& (32767 : Int32) = nI (v.toBitVec.toNat / 2 ^ 16 % 2 ^ 15) := by
  constructor
  · rw [pk_and _ 15 rfl, pk_ushr v 16 16 rfl]
  · rw [pk_and _ 15 rfl]
    congr 1
    have h := pk_shr v ((16 : Int32) &&& 31) 16 rfl
    have e1 : ∀ x : Int32, (x.toBitVec.toNat : Int) = x.toInt % 2 ^ 32 := by
      intro x
      have : x.toInt = x.toBitVec.toInt := rfl
      rw [this, BitVec.toInt_eq_toNat_cond]
      have hb := x.toBitVec.isLt
      split <;> omega
    have e2 := e1 (v >>> ((16 : Int32) &&& 31))
    have e3 := e1 v
    rw [h, Int.shiftRight_eq_div_pow] at e2
    omega
noncomputable def sdA (x : Int32) : Int32 := x * 1103515245 + 12345
theorem sd_eq (x : Int32) : x * 1103515245 + 12345 = sdA x := rfl
noncomputable def lmA (x : Int32) : Nat := (sdA x).toBitVec.toNat / 2 ^ 16 % 2 ^ 15 % 10
noncomputable def drG (sd : Int32 → Int32) (lm : Int32 → Nat) : Nat → Int32 → (Nat → Nat) → (Nat → Nat)
  | 0, _, A => A
  | m + 1, x, A => drG sd lm m (sd x) (crA (setA A 31 (lm x)) false)
theorem drG_s (sd : Int32 → Int32) (lm : Int32 → Nat) (m : Nat) (x : Int32) (A : Nat → Nat) : drG sd lm (m + 1) x A = drG sd lm m (sd x) (crA (setA A 31 (lm x)) false) := rfl
theorem drG_0 (sd : Int32 → Int32) (lm : Int32 → Nat) (x : Int32) (A : Nat → Nat) : drG sd lm 0 x A = A := rfl
noncomputable def drA : Nat → Int32 → (Nat → Nat) → (Nat → Nat) := drG sdA lmA
noncomputable def aDrift (A : Nat → Nat) (a b c : Int32) : Int32 := ans (wc 1 60 b ∧ wc 0 1 c) A (cs (c = 0) (nI (drA b.toNatClampNeg a A 32)) (nI (drA b.toNatClampNeg a A 35) - nI (A 35)))
theorem lm_eq (x : Int32) : (sdA x).toBitVec.toNat / 2 ^ 16 % 2 ^ 15 % 10 = lmA x := rfl
theorem dr_s (m : Nat) (x : Int32) (A : Nat → Nat) : drA (m + 1) x A = drA m (sdA x) (crA (setA A 31 (lmA x)) false) := drG_s sdA lmA m x A
theorem lm_le (x : Int32) : lmA x ≤ 9 := by unfold lmA; omega
theorem x_drift {a b c : Int32} {σ : Mem} {A : Nat → Nat} {Q : Int32 → Mem → Prop} (hR : RX σ 12 A) (hQ : ∀ τ : Mem, KX σ τ → Q (aDrift A a b c) τ) : wp_X5_drift a b c σ Q := by
  have w := hR.1.1
  intro P22 P23 P53 h22 h23 h53
  have bad : ¬ (wc 1 60 b ∧ wc 0 1 c) → P22 σ := fun hn => by
    refine h22 _ (h23 _ _ ?_)
    refine x_ref hR (fun _ => ?_) (fun q => absurd rfl q) (fun q => absurd rfl q)
    have := hQ σ KX.rf
    rw [show aDrift A a b c = -1 from ans_bad hn] at this
    exact this
  refine x_wi (fun h => b01 (bad (fun q => h q.1))) (fun hb => b11 ?_)
  refine x_isWhich (fun h => b01 (bad (fun q => h q.2))) (fun hc' => b11 ?_)
  apply h23
  refine x_ref hR (fun q => absurd q (by decide)) (fun _ q => ?_) (fun _ h2 => ?_)
  · have := hQ σ KX.rf
    rw [show aDrift A a b c = -2 from ans_two ⟨hb, hc'⟩ q] at this
    exact this
  obtain ⟨n, hn1, hn, rfl⟩ := wc1_of (n := 60) rfl (by omega) hb
  have key : ∀ m j : Nat, ∀ x : Int32, ∀ B : Nat → Nat, ∀ τ : Mem, j + m = n → RX τ 19 B → B 24 = A 24 → drA m x B = drA n a A → KX σ τ → P53 x (nI j) τ := by
    intro m
    induction m with
    | zero =>
      intro j x B τ hj g1 g2 g3 g4
      apply h53
      refine pk_le n j (fun _ => ?_) (fun q => by omega)
      have hQ' := hQ τ g4
      rw [show aDrift A a (nI n) c = _ from ans_yes ⟨hb, hc'⟩ h2, nI_clamp (show n < 2 ^ 31 by omega), ← g3] at hQ'
      change Q (cs (c = 0) (nI (B 32)) (nI (B 35) - nI (A 35))) τ at hQ'
      have e32 := g1.2.2.2.2 32 (by omega) (by omega)
      have e35 := g1.2.2.2.2 35 (by omega) (by omega)
      have f35 := (hR.now g4).2.2.2.2 35 (by omega) (by omega)
      simp only [Nat.reduceSub] at e32 e35 f35
      rw [e32, e35, f35]
      refine ⟨fun q => ?_, fun q => ?_⟩
      · rw [cs_f q] at hQ'; exact hQ'
      · rw [cs_t q] at hQ'; exact hQ'
    | succ m ih =>
      intro j x B τ hj g1 g2 g3 g4
      apply h53
      refine pk_le n j (fun q => by omega) (fun _ => ?_)
      intro v7 hv7
      rw [sd_eq] at hv7
      subst hv7
      rw [(bits_same (sdA x)).1, show (10 : Int32) = nI 10 from rfl, pk_rem (by omega) (by omega) (by omega), lm_eq]
      rintro _ rfl
      have hs := g1.set31 (v := lmA x) (lm_le x)
      have e24 : setA B 31 (lmA x) 24 = B 24 := setA_ne (by omega)
      refine x_crown0 hs (by omega) (fun υ u1 _ _ _ _ _ u2 u3 => ?_)
      rintro _ rfl
      rw [nI_1]
      refine ih (j + 1) (sdA x) (crA (setA B 31 (lmA x)) false) υ (by omega) u1 (by rw [crA_n hs.1 (by omega), e24, g2]) ((dr_s m x B).symm.trans g3) (g4.tr ⟨fun a b q => ?_, ?_⟩)
      · rw [u2 a b (by omega), mm1 (by omega)]
      · rw [u3]; rfl
  exact x_try hR (fun τ t1 _ t2 => key n 0 a A τ (by omega) t1 rfl rfl t2)
theorem m_drift {a b c : Int32} {σ : Mem} {A : Nat → Nat} {Q : Int32 → Mem → Prop} (hR : Rl (σ.1 65) A) (hQ : ∀ τ : Mem, KM σ τ → Q (aDrift A a b c) τ) : wp_X6_drift a b c σ Q := by
  have w := hR.1.1
  intro P41 h41
  simp only [tc31, tc32, tc35] at h41
  have bad : ¬ (wc 1 60 b ∧ wc 0 1 c) → Q (-1) σ := fun hn => by
    have := hQ σ KM.rf
    rw [show aDrift A a b c = -1 from ans_bad hn] at this
    exact this
  refine m_wi 1 60 rfl rfl (fun h => b01 (bad (fun q => h q.1))) (fun hb => b11 ?_)
  refine m_part (fun h => b00 (bad (fun q => h q.2))) (fun hc' => b10 ?_)
  refine m_twoR hR (fun q => b00 ?_) (fun h2 => b10 ?_)
  · have := hQ σ KM.rf
    rw [show aDrift A a b c = -2 from ans_two ⟨hb, hc'⟩ q] at this
    exact this
  obtain ⟨n, hn1, hn, rfl⟩ := wc1_of (n := 60) rfl (by omega) hb
  have key : ∀ m j : Nat, ∀ x : Int32, ∀ B : Nat → Nat, ∀ τ : Mem, j + m = n → Rl (τ.1 66) B → B 24 = A 24 → drA m x B = drA n a A → KM σ τ → P41 x (nI j) τ := by
    intro m
    induction m with
    | zero =>
      intro j x B τ hj g1 g2 g3 g4
      apply h41
      refine pk_le n j (fun _ => ?_) (fun q => by omega)
      have hQ' := hQ τ g4
      rw [show aDrift A a (nI n) c = _ from ans_yes ⟨hb, hc'⟩ h2, nI_clamp (show n < 2 ^ 31 by omega), ← g3] at hQ'
      change Q (cs (c = 0) (nI (B 32)) (nI (B 35) - nI (A 35))) τ at hQ'
      have e32 := g1.2.2.2.2 32 (by omega) (by omega)
      have e35 := g1.2.2.2.2 35 (by omega) (by omega)
      have f35 := (hR.now g4).2.2.2.2 35 (by omega) (by omega)
      rw [e32, e35, f35]
      refine ⟨fun q => ?_, fun q => ?_⟩
      · rw [cs_f q] at hQ'; exact hQ'
      · rw [cs_t q] at hQ'; exact hQ'
    | succ m ih =>
      intro j x B τ hj g1 g2 g3 g4
      apply h41
      refine pk_le n j (fun q => by omega) (fun _ => ?_)
      intro v7 hv7
      rw [sd_eq] at hv7
      subst hv7
      rw [(bits_same (sdA x)).2, show (10 : Int32) = nI 10 from rfl, pk_rem (by omega) (by omega) (by omega), lm_eq]
      rintro _ rfl
      have hs := g1.set31 (v := lmA x) (lm_le x)
      have e24 : setA B 31 (lmA x) 24 = B 24 := setA_ne (by omega)
      refine m_reign0 hs (by omega) (fun υ u1 _ _ _ u2 => ?_)
      rintro _ rfl
      rw [nI_1]
      exact ih (j + 1) (sdA x) (crA (setA B 31 (lmA x)) false) υ (by omega) u1 (by rw [crA_n hs.1 (by omega), e24, g2]) ((dr_s m x B).symm.trans g3) ((g4.st66).tr u2.km)
  exact m_try hR (fun τ t1 _ t2 => key n 0 a A τ (by omega) t1 rfl rfl t2)
