/-! what is best: ahead, ache, term, stool -/
theorem RX.setT {σ : Mem} {d h w v : Nat} {A : Nat → Nat} (hR : RX σ d A) (hh : h < A 24) (hv : okT w v) : RX (st1 σ (d + 2 + w) h (nI v)) d (setA A (4 * h + w) v) := by
  have W := hR.1.set hh hv
  have hw : w < 4 := by unfold okT at hv; omega
  have w1 := hR.1.1
  have hn : setA A (4 * h + w) v 24 = A 24 := setA_ne (by omega)
  obtain ⟨_, r1, r2, r3, r4⟩ := hR
  refine ⟨W, ?_, ?_, ?_, ?_⟩
  · rw [st1_get, if_neg (by omega), hn]; exact r1
  · intro g x hg hx
    rw [hn] at hg
    rw [st1_get]
    by_cases e : g = h ∧ x = w
    · obtain ⟨rfl, rfl⟩ := e
      rw [if_pos ⟨rfl, rfl⟩, setA_eq]
    · rw [if_neg (by omega), setA_ne (by omega)]
      exact r2 g x hg hx
  · intro i hi
    rw [hn] at hi
    rw [st1_get, if_neg (by omega), setA_ne (by omega)]
    exact r3 i hi
  · intro k k1 k2
    rw [st1_get, if_neg (by omega), setA_ne (by omega)]
    exact r4 k k1 k2
theorem WF.set31 {A : Nat → Nat} {v : Nat} (W : WF A) (hv : v ≤ 9) : WF (setA A 31 v) := by
  obtain ⟨w1, w2, w3, w4, w5, w6, w7⟩ := W
  have hn : setA A 31 v 24 = A 24 := setA_ne (by omega)
  refine ⟨by rw [hn]; exact w1, ?_, ?_, ?_, ?_, by rw [setA_eq]; exact hv, by rw [setA_ne (by omega)]; exact w7⟩
  · intro g hg
    rw [hn] at hg
    rw [setA_ne (by omega), setA_ne (by omega), setA_ne (by omega), setA_ne (by omega)]
    exact w2 g hg
  · intro i hi
    rw [hn] at hi ⊢
    rw [setA_ne (by omega)]
    exact w3 i hi
  · intro i j hi hj q
    rw [hn] at hi hj
    rw [setA_ne (by omega), setA_ne (by omega)] at q
    exact w4 i j hi hj q
  · intro g hg
    rw [hn] at hg ⊢
    obtain ⟨i, hi, e⟩ := w5 g hg
    exact ⟨i, hi, by rw [setA_ne (by omega)]; exact e⟩
theorem RX.set31 {σ : Mem} {d v : Nat} {A : Nat → Nat} (hR : RX σ d A) (hv : v ≤ 9) : RX (st1 σ d 3 (nI v)) d (setA A 31 v) := by
  have W := hR.1.set31 hv
  have w1 := hR.1.1
  have hn : setA A 31 v 24 = A 24 := setA_ne (by omega)
  obtain ⟨_, r1, r2, r3, r4⟩ := hR
  refine ⟨W, ?_, ?_, ?_, ?_⟩
  · rw [st1_get, if_neg (by omega), hn]; exact r1
  · intro g x hg hx
    rw [hn] at hg
    rw [st1_get, if_neg (by omega), setA_ne (by omega)]
    exact r2 g x hg hx
  · intro i hi
    rw [hn] at hi
    rw [st1_get, if_neg (by omega), setA_ne (by omega)]
    exact r3 i hi
  · intro k k1 k2
    by_cases e : k = 31
    · subst e
      rw [setA_eq]
      exact mm3
    · rw [st1_get, if_neg (by omega), setA_ne (by omega)]
      exact r4 k k1 k2
theorem Rl.setT {σ : Mem} {b h w v : Nat} {A : Nat → Nat} (hR : Rl (σ.1 b) A) (hh : h < A 24) (hv : okT w v) : Rl ((st1 σ b (4 * h + w) (nI v)).1 b) (setA A (4 * h + w) v) := by
  have W := hR.1.set hh hv
  have hw : w < 4 := by unfold okT at hv; omega
  have w1 := hR.1.1
  have hn : setA A (4 * h + w) v 24 = A 24 := setA_ne (by omega)
  obtain ⟨_, r1, r2, r3, r4⟩ := hR
  refine ⟨W, ?_, ?_, ?_, ?_⟩
  · rw [st1_get, if_neg (by omega), hn]; exact r1
  · intro g x hg hx
    rw [hn] at hg
    rw [st1_get]
    by_cases e : g = h ∧ x = w
    · obtain ⟨rfl, rfl⟩ := e
      rw [if_pos ⟨rfl, rfl⟩, setA_eq]
    · rw [if_neg (by omega), setA_ne (by omega)]
      exact r2 g x hg hx
  · intro i hi
    rw [hn] at hi
    rw [st1_get, if_neg (by omega), setA_ne (by omega)]
    exact r3 i hi
  · intro k k1 k2
    rw [st1_get, if_neg (by omega), setA_ne (by omega)]
    exact r4 k k1 k2
theorem Rl.set31 {σ : Mem} {b v : Nat} {A : Nat → Nat} (hR : Rl (σ.1 b) A) (hv : v ≤ 9) : Rl ((st1 σ b 31 (nI v)).1 b) (setA A 31 v) := by
  have W := hR.1.set31 hv
  have w1 := hR.1.1
  have hn : setA A 31 v 24 = A 24 := setA_ne (by omega)
  obtain ⟨_, r1, r2, r3, r4⟩ := hR
  refine ⟨W, ?_, ?_, ?_, ?_⟩
  · rw [st1_get, if_neg (by omega), hn]; exact r1
  · intro g x hg hx
    rw [hn] at hg
    rw [st1_get, if_neg (by omega), setA_ne (by omega)]
    exact r2 g x hg hx
  · intro i hi
    rw [hn] at hi
    rw [st1_get, if_neg (by omega), setA_ne (by omega)]
    exact r3 i hi
  · intro k k1 k2
    by_cases e : k = 31
    · subst e
      rw [setA_eq]
      exact mm3
    · rw [st1_get, if_neg (by omega), setA_ne (by omega)]
      exact r4 k k1 k2
theorem KM.st66 {σ τ : Mem} {k : Nat} {v : Int32} (h : KM σ τ) : KM σ (st1 τ 66 k v) := fun a b p1 p2 p3 p4 p5 p6 => by
  rw [mm1 p1]
  exact h a b p1 p2 p3 p4 p5 p6
/-! ahead -/
noncomputable def yrA (A : Nat → Nat) (h : Nat) : Nat → Int32
  | 0 => 0
  | n + 1 => cs (itA n A 26 = h) (yrA A h n + nI (spanA (itA n A) false)) (yrA A h n)
noncomputable def vAhead (A : Nat → Nat) (h n : Nat) (c : Int32) : Int32 := cs (c = 0) (nI (itA n A (4 * h + 1))) (cs (c = 1) (nI (plcA (itA n A) h)) (yrA A h n))
noncomputable def aAhead (A : Nat → Nat) (a b c : Int32) : Int32 := ans (hc A a ∧ wc 0 60 b ∧ wc 0 2 c) A (vAhead A a.toNatClampNeg b.toNatClampNeg c)
theorem x_ahead {a b c : Int32} {σ : Mem} {A : Nat → Nat} {Q : Int32 → Mem → Prop} (hR : RX σ 12 A) (hQ : ∀ τ : Mem, KX σ τ → Q (aAhead A a b c) τ) : wp_X5_ahead a b c σ Q := by
  have w := hR.1.1
  intro P29 P30 P60 P97 h29 h30 h60 h97
  have bad : ¬ (hc A a ∧ wc 0 60 b ∧ wc 0 2 c) → P29 σ := fun hn => by
    refine h29 _ (h30 _ _ ?_)
    refine x_ref hR (fun _ => ?_) (fun q => absurd rfl q) (fun q => absurd rfl q)
    have := hQ σ KX.rf
    rw [show aAhead A a b c = -1 from ans_bad hn] at this
    exact this
  refine x_isHeir hR.2.1 (fun h => b01 (bad (fun q => h q.1))) (fun ha => b11 ?_)
  refine x_isAhead (fun h => b01 (bad (fun q => h q.2.1))) (fun hb => b11 ?_)
  refine x_wi (fun h => b01 (bad (fun q => h q.2.2))) (fun hc' => b11 ?_)
  apply h30
  refine x_ref hR (fun q => absurd q (by decide)) (fun _ q => ?_) (fun _ h2 => ?_)
  · have := hQ σ KX.rf
    rw [show aAhead A a b c = -2 from ans_two ⟨ha, hb, hc'⟩ q] at this
    exact this
  obtain ⟨g, hg, rfl⟩ := hc_of w ha
  obtain ⟨n, hn, rfl⟩ := wc_of (n := 60) rfl (by omega) hb
  have hQ' : ∀ τ : Mem, KX σ τ → Q (vAhead A g n c) τ := fun τ t => by
    have := hQ τ t
    rw [show aAhead A (nI g) (nI n) c = vAhead A (nI g).toNatClampNeg (nI n).toNatClampNeg c from ans_yes ⟨ha, hb, hc'⟩ h2, nI_clamp (by omega), nI_clamp (by omega)] at this
    exact this
  have key : ∀ m j : Nat, ∀ τ : Mem, j + m = n → RX τ 19 (itA j A) → KX σ τ → P60 (yrA A g j) (nI (j + 1)) τ := by
    intro m
    induction m with
    | zero =>
      intro j τ hj g1 g4
      apply h60
      refine pk_lt n (j + 1) (fun _ => ?_) (fun q => by omega)
      rw [show j = n by omega] at g1 ⊢
      have hgn : g < itA n A 24 := by rw [(it_wf hR.1 h2 n).2]; exact hg
      have := hQ' τ g4
      unfold vAhead at this
      refine ⟨fun h => ?_, fun h => ?_, fun h0 h1 => ?_⟩
      · rw [cs_t h] at this
        refine ⟨pk_in g 6 (by omega), ?_⟩
        have e := g1.2.2.1 g 1 hgn (by omega)
        rw [nI_clamp (show g < 2 ^ 31 by omega), tc1, Nat.one_mul, e]
        exact this
      · subst h
        rw [cs_f (by decide), cs_t rfl] at this
        exact x_placeA g1 hgn this
      · rw [cs_f h0, cs_f h1] at this
        exact this
    | succ m ih =>
      intro j τ hj g1 g4
      apply h60
      refine pk_lt n (j + 1) (fun q => by omega) (fun _ => ?_)
      have wj := it_wf hR.1 h2 j
      have b1 := wj.1.2.2.1 1 (by omega)
      simp only [Nat.reduceAdd] at b1
      refine x_crown0 g1 (by omega) (fun υ u1 u8 u9 _ _ _ u2 u3 => ?_)
      have k := g4.tr (KX.of u2 u3)
      have go : ∀ x : Int32, x = yrA A g (j + 1) → P97 x (nI (j + 1)) υ := by
        rintro _ rfl
        refine h97 _ _ _ ?_
        rintro _ rfl
        rw [nI_1]
        exact ih (j + 1) υ (by omega) u1 k
      rw [u8, u9]
      refine ⟨fun z => go _ ?_, fun z => ?_⟩
      · exact (cs_f (fun q => z (by rw [q]))).symm
      · rintro _ rfl
        refine go _ ?_
        rw [nI_eq (by omega) (by omega)] at z
        exact (cs_t z).symm
  exact x_try hR (fun τ t1 _ t2 => key n 0 τ (by omega) t1 t2)
theorem m_ahead {a b c : Int32} {σ : Mem} {A : Nat → Nat} {Q : Int32 → Mem → Prop} (hR : Rl (σ.1 65) A) (hQ : ∀ τ : Mem, KM σ τ → Q (aAhead A a b c) τ) : wp_X6_ahead a b c σ Q := by
  have w := hR.1.1
  intro P49 P78 h49 h78
  have bad : ¬ (hc A a ∧ wc 0 60 b ∧ wc 0 2 c) → Q (-1) σ := fun hn => by
    have := hQ σ KM.rf
    rw [show aAhead A a b c = -1 from ans_bad hn] at this
    exact this
  refine m_heir hR.2.1 (fun h => b01 (bad (fun q => h q.1))) (fun ha => b11 ?_)
  refine m_far (fun h => b01 (bad (fun q => h q.2.1))) (fun hb => b11 ?_)
  refine m_wi 0 2 rfl rfl (fun h => b00 (bad (fun q => h q.2.2))) (fun hc' => b10 ?_)
  refine m_twoR hR (fun q => b00 ?_) (fun h2 => b10 ?_)
  · have := hQ σ KM.rf
    rw [show aAhead A a b c = -2 from ans_two ⟨ha, hb, hc'⟩ q] at this
    exact this
  obtain ⟨g, hg, rfl⟩ := hc_of w ha
  obtain ⟨n, hn, rfl⟩ := wc_of (n := 60) rfl (by omega) hb
  have hQ' : ∀ τ : Mem, KM σ τ → Q (vAhead A g n c) τ := fun τ t => by
    have := hQ τ t
    rw [show aAhead A (nI g) (nI n) c = vAhead A (nI g).toNatClampNeg (nI n).toNatClampNeg c from ans_yes ⟨ha, hb, hc'⟩ h2, nI_clamp (by omega), nI_clamp (by omega)] at this
    exact this
  have key : ∀ m j : Nat, ∀ τ : Mem, j + m = n → Rl (τ.1 66) (itA j A) → KM σ τ → P49 (yrA A g j) (nI j) τ := by
    intro m
    induction m with
    | zero =>
      intro j τ hj g1 g4
      apply h49
      refine pk_le n j (fun _ => ?_) (fun q => by omega)
      rw [show j = n by omega] at g1 ⊢
      have hgn : g < itA n A 24 := by rw [(it_wf hR.1 h2 n).2]; exact hg
      have w6 := g1.1.1
      have := hQ' τ g4
      unfold vAhead at this
      refine ⟨fun h0 => ⟨fun h1 => ?_, fun h1 => ?_⟩, fun h => ?_⟩
      · rw [cs_f h0, cs_f h1] at this
        exact this
      · rw [cs_f h0, cs_t h1] at this
        exact m_placeA g1 hgn this
      · rw [cs_t h] at this
        rw [show (1 : Int32) = nI 1 from rfl]
        refine m_of (by omega) ?_
        rw [g1.2.2.1 g 1 hgn (by omega)]
        exact this
    | succ m ih =>
      intro j τ hj g1 g4
      apply h49
      refine pk_le n j (fun q => by omega) (fun _ => ?_)
      have wj := it_wf hR.1 h2 j
      have b1 := wj.1.2.2.1 1 (by omega)
      simp only [Nat.reduceAdd] at b1
      refine m_reign0 g1 (by omega) (fun υ u1 u8 u9 _ u2 => ?_)
      have k := g4.tr u2.km
      have go : ∀ x y : Int32, x + y = yrA A g (j + 1) → P78 (nI j) y x υ := by
        intro x y hxy
        refine h78 _ _ _ _ ?_
        rintro _ rfl _ rfl
        rw [nI_1, hxy]
        exact ih (j + 1) υ (by omega) u1 k
      rw [u8, u9]
      refine ⟨fun z => go _ _ ?_, fun z => go _ _ ?_⟩
      · rw [Int32.add_zero]
        exact (cs_f (fun q => z (by rw [q]))).symm
      · rw [nI_eq (by omega) (by omega)] at z
        exact (cs_t z).symm
  exact m_try hR (fun τ t1 _ t2 => key n 0 τ (by omega) t1 t2)
/-! the best of several -/
noncomputable def bst (f : Nat → Int32) : Nat → Nat → Int32 × Int32 → Int32 × Int32
  | 0, _, s => s
  | m + 1, v, s => bst f m (v + 1) (cs (f v ≤ s.1) s (f v, nI v))
theorem bst_first {f : Nat → Int32} {m v w : Nat} {x : Int32} (hw : f v = nI w) (h : w < 2 ^ 31) : bst f (m + 1) v (-1, x) = bst f m (v + 1) (f v, nI v) := by
  show bst f m (v + 1) (cs (f v ≤ -1) (-1, x) (f v, nI v)) = _
  rw [cs_f (by
    rw [hw]
    intro q
    have h0 := nI_pos' h
    exact absurd (Int32.le_trans h0 q) (by decide))]
theorem bst_ne {f : Nat → Int32} : ∀ (m v : Nat) (s : Int32 × Int32), v + m < 2 ^ 31 → (∃ j, j < 2 ^ 31 ∧ s.2 = nI j) → ∃ j, j < 2 ^ 31 ∧ (bst f m v s).2 = nI j := by
  intro m
  induction m with
  | zero => intro v s _ h; exact h
  | succ m ih =>
    intro v s hv h
    refine ih (v + 1) _ (by omega) ?_
    by_cases q : f v ≤ s.1
    · rw [cs_t q]; exact h
    · rw [cs_f q]; exact ⟨v, by omega, rfl⟩
theorem nI_m4 {j : Nat} (h : j < 2 ^ 31) : ¬ nI j = -4 := fun q => by
  have := nI_pos' h
  rw [q] at this
  exact absurd this (by decide)
theorem x_wom {a0 a1 a2 : Int32} {σ : Mem} {Q : Int32 → Mem → Prop} (hQ : Q (cs (a1 = -4) (-4) (cs (a0 = 0) a1 a2)) σ) : wp_X5_whichOrMuch a0 a1 a2 σ Q := by
  unfold wp_X5_whichOrMuch
  refine ⟨fun h => ⟨fun q => ?_, fun q => ?_⟩, fun h => ?_⟩
  · rw [cs_f h, cs_f q] at hQ; exact hQ
  · rw [cs_f h, cs_t q] at hQ; exact hQ
  · rw [cs_t h] at hQ; exact hQ
/-! ache -/
noncomputable def fAche (A : Nat → Nat) (n v : Nat) : Int32 := nI (itA n (setA A 31 v) 32)
noncomputable def vAche (A : Nat → Nat) (n : Nat) (b : Int32) : Int32 := cs (b = 0) (bst (fAche A n) 9 1 (fAche A n 0, nI 0)).2 (bst (fAche A n) 9 1 (fAche A n 0, nI 0)).1
noncomputable def aAche (A : Nat → Nat) (a b : Int32) : Int32 := ans (wc 0 60 a ∧ wc 0 1 b) A (vAche A a.toNatClampNeg b)
theorem bnd32 {A : Nat → Nat} {n : Nat} (w : WF A) (h2 : 2 ≤ A 24) : itA n A 32 < 2 ^ 31 := by
  have := (it_wf w h2 n).1.2.2.2.2.2.2
  omega
theorem x_ache {a b : Int32} {σ : Mem} {A : Nat → Nat} {Q : Int32 → Mem → Prop} (hR : RX σ 12 A) (hQ : ∀ τ : Mem, KX σ τ → Q (aAche A a b) τ) : wp_X5_ache a b σ Q := by
  have w := hR.1.1
  intro P19 P20 P40 P92 h19 h20 h40 h92
  have bad : ¬ (wc 0 60 a ∧ wc 0 1 b) → P19 σ := fun hn => by
    refine h19 _ (h20 _ _ ?_)
    refine x_ref hR (fun _ => ?_) (fun q => absurd rfl q) (fun q => absurd rfl q)
    have := hQ σ KX.rf
    rw [show aAche A a b = -1 from ans_bad hn] at this
    exact this
  refine x_isAhead (fun h => b01 (bad (fun q => h q.1))) (fun ha => b11 ?_)
  refine x_isWhich (fun h => b01 (bad (fun q => h q.2))) (fun hb => b11 ?_)
  apply h20
  refine x_ref hR (fun q => absurd q (by decide)) (fun _ q => ?_) (fun _ h2 => ?_)
  · have := hQ σ KX.rf
    rw [show aAche A a b = -2 from ans_two ⟨ha, hb⟩ q] at this
    exact this
  obtain ⟨n, hn, rfl⟩ := wc_of (n := 60) rfl (by omega) ha
  have hQ' : ∀ τ : Mem, KX σ τ → Q (vAche A n b) τ := fun τ t => by
    have := hQ τ t
    rw [show aAche A (nI n) b = vAche A (nI n).toNatClampNeg b from ans_yes ⟨ha, hb⟩ h2, nI_clamp (by omega)] at this
    exact this
  have f0 : bst (fAche A n) 10 0 (-1, -4) = bst (fAche A n) 9 1 (fAche A n 0, nI 0) := bst_first rfl (bnd32 (hR.1.set31 (by omega)) (by rw [setA_ne (by omega)]; exact h2))
  have key : ∀ m j : Nat, ∀ s : Int32 × Int32, ∀ τ : Mem, j + m = 10 → bst (fAche A n) m j s = bst (fAche A n) 10 0 (-1, -4) → KX σ τ → P40 s.1 s.2 (nI j) τ := by
    intro m
    induction m with
    | zero =>
      intro j s τ hj g1 g4
      apply h40
      refine pk_lt 9 j (fun _ => x_wom ?_) (fun q => by omega)
      have e : s = bst (fAche A n) 9 1 (fAche A n 0, nI 0) := by rw [← f0]; exact g1
      have hne := bst_ne (f := fAche A n) 9 1 (fAche A n 0, nI 0) (by omega) ⟨0, by omega, rfl⟩
      rw [← e] at hne
      obtain ⟨q, hq, eq⟩ := hne
      rw [cs_f (by rw [eq]; exact nI_m4 hq)]
      have := hQ' τ g4
      unfold vAche at this
      rw [← e] at this
      exact this
    | succ m ih =>
      intro j s τ hj g1 g4
      apply h40
      refine pk_lt 9 j (fun q => by omega) (fun _ => ?_)
      refine x_try (hR.now g4) (fun υ u1 _ u2 => ?_)
      rintro _ rfl
      have hs := u1.set31 (v := j) (by omega)
      refine x_works hs (by rw [setA_ne (by omega)]; exact h2) (by omega) (fun ψ p1 p2 p3 => ?_)
      have k : KX σ ψ := by
        refine g4.tr (u2.tr (KX.of (fun x y h => ?_) ?_))
        · rw [p2 x y h, mm1 (by omega)]
        · rw [p3]; rfl
      have go : ∀ s' : Int32 × Int32, s' = cs (fAche A n j ≤ s.1) s (fAche A n j, nI j) → P92 s'.1 s'.2 (nI j) ψ := by
        rintro _ rfl
        refine h92 _ _ _ _ ?_
        rintro _ rfl
        rw [nI_1]
        exact ih (j + 1) _ ψ (by omega) g1 k
      exact ⟨fun z => go s (cs_t z).symm, fun z => go (fAche A n j, nI j) (cs_f z).symm⟩
  exact key 10 0 (-1, -4) σ (by omega) rfl KX.rf
/-- the reference's search -/
theorem m_best {cell lo hi n : Nat} {c : Int32} {σ : Mem} {A : Nat → Nat} {f : Nat → Int32} {Q : Int32 → Mem → Prop} (hR : Rl (σ.1 65) A) (h2 : 2 ≤ A 24) (hn : n < 2 ^ 31) (hcell : cell < 49) (hlo : lo ≤ hi) (hhi : hi < 1000)
    (hS : ∀ v : Nat, lo ≤ v → v ≤ hi → ∀ τ : Mem, Rl (τ.1 66) A → ∃ B, Rl ((st1 τ 66 cell (nI v)).1 66) B ∧ B 24 = A 24 ∧ f v = nI (itA n B 32))
    (hQ : ∀ τ : Mem, KM σ τ → Q (cs (c = 0) (bst f (hi - lo) (lo + 1) (f lo, nI lo)).2 (bst f (hi - lo) (lo + 1) (f lo, nI lo)).1) τ) : wp_X6_bestOf (nI cell) (nI lo) (nI hi) (nI n) c σ Q := by
  intro P9 P52 P78 h9 h52 h78
  simp only [tc32] at h9 h52
  have f0 : bst f (hi - lo + 1) lo (-1, nI lo) = bst f (hi - lo) (lo + 1) (f lo, nI lo) := by
    obtain ⟨B, b1, b2, b3⟩ := hS lo (Nat.le_refl _) hlo (st1 σ 66 0 0 |> fun _ => (fun a b => if a = 66 then σ.1 65 b else σ.1 a b, σ.2)) (by simpa using hR)
    exact bst_first b3 (bnd32 b1.1 (by rw [b2]; exact h2))
  have key : ∀ m j : Nat, ∀ s : Int32 × Int32, ∀ τ : Mem, j + m = hi + 1 → lo ≤ j → bst f m j s = bst f (hi - lo + 1) lo (-1, nI lo) → KM σ τ → P9 s.1 s.2 (nI j) τ := by
    intro m
    induction m with
    | zero =>
      intro j s τ hj hl g1 g4
      apply h9
      refine pk_lt hi j (fun _ => ?_) (fun q => by omega)
      have e : s = bst f (hi - lo) (lo + 1) (f lo, nI lo) := by rw [← f0]; exact g1
      have := hQ τ g4
      rw [← e] at this
      refine ⟨fun q => ?_, fun q => ?_⟩
      · rw [cs_f q] at this; exact this
      · rw [cs_t q] at this; exact this
    | succ m ih =>
      intro j s τ hj hl g1 g4
      apply h9
      refine pk_lt hi j (fun q => by omega) (fun _ => ?_)
      refine m_try (hR.now g4) (fun υ u1 _ u2 => ?_)
      refine ⟨pk_in cell 49 hcell, ?_⟩
      rintro _ rfl
      rw [nI_clamp (show cell < 2 ^ 31 by omega)]
      obtain ⟨B, b1, b2, b3⟩ := hS j hl (by omega) υ u1
      refine m_reignsGo b1 (by rw [b2]; exact h2) hn (fun ψ p1 p2 => ?_)
      have e32 := p1.2.2.2.2 32 (by omega) (by omega)
      rw [← b3] at e32
      have k : KM σ ψ := (g4.tr u2.st66).tr p2.km
      have go : ∀ s' : Int32 × Int32, s' = cs (f j ≤ s.1) s (f j, nI j) → P78 s'.2 (nI j) s'.1 ψ := by
        rintro _ rfl
        refine h78 _ _ _ _ ?_
        rintro _ rfl
        rw [nI_1]
        exact ih (j + 1) _ ψ (by omega) (by omega) g1 k
      rw [e32]
      refine ⟨fun z => h52 _ _ _ _ ?_, fun z => h52 _ _ _ _ ?_⟩
      · rw [e32]
        exact ⟨fun _ => go s (cs_t z).symm, fun q => absurd z q⟩
      · rw [e32]
        exact ⟨fun q => absurd q z, fun _ => go (f j, nI j) (cs_f z).symm⟩
  exact key (hi - lo + 1) lo (-1, nI lo) σ (by omega) (Nat.le_refl _) rfl KM.rf
theorem m_ache {a b : Int32} {σ : Mem} {A : Nat → Nat} {Q : Int32 → Mem → Prop} (hR : Rl (σ.1 65) A) (hQ : ∀ τ : Mem, KM σ τ → Q (aAche A a b) τ) : wp_X6_ache a b σ Q := by
  have w := hR.1.1
  unfold wp_X6_ache
  have bad : ¬ (wc 0 60 a ∧ wc 0 1 b) → Q (-1) σ := fun hn => by
    have := hQ σ KM.rf
    rw [show aAche A a b = -1 from ans_bad hn] at this
    exact this
  refine m_far (fun h => b01 (bad (fun q => h q.1))) (fun ha => b11 ?_)
  refine m_part (fun h => b00 (bad (fun q => h q.2))) (fun hb => b10 ?_)
  refine m_twoR hR (fun q => b01 ?_) (fun h2 => b11 ?_)
  · have := hQ σ KM.rf
    rw [show aAche A a b = -2 from ans_two ⟨ha, hb⟩ q] at this
    exact this
  obtain ⟨n, hn, rfl⟩ := wc_of (n := 60) rfl (by omega) ha
  refine m_best (cell := 31) (lo := 0) (hi := 9) (f := fAche A n) hR h2 (by omega) (by omega) (by omega) (by omega) (fun v _ hv τ t => ⟨_, t.set31 hv, setA_ne (by omega), rfl⟩) (fun τ t => ?_)
  have := hQ τ t
  rw [show aAche A (nI n) b = vAche A (nI n).toNatClampNeg b from ans_yes ⟨ha, hb⟩ h2, nI_clamp (by omega)] at this
  exact this
/-! term -/
noncomputable def fTerm (A : Nat → Nat) (g n v : Nat) : Int32 := nI (itA n (setA A (4 * g + 3) v) 32)
noncomputable def vTerm (A : Nat → Nat) (g n : Nat) (c : Int32) : Int32 := cs (c = 0) (bst (fTerm A g n) 29 2 (fTerm A g n 1, nI 1)).2 (bst (fTerm A g n) 29 2 (fTerm A g n 1, nI 1)).1
noncomputable def aTerm (A : Nat → Nat) (a b c : Int32) : Int32 := ans (hc A a ∧ wc 0 60 b ∧ wc 0 1 c) A (vTerm A a.toNatClampNeg b.toNatClampNeg c)
theorem x_term {a b c : Int32} {σ : Mem} {A : Nat → Nat} {Q : Int32 → Mem → Prop} (hR : RX σ 12 A) (hQ : ∀ τ : Mem, KX σ τ → Q (aTerm A a b c) τ) : wp_X5_term a b c σ Q := by
  have w := hR.1.1
  intro P27 P28 P51 P107 h27 h28 h51 h107
  have bad : ¬ (hc A a ∧ wc 0 60 b ∧ wc 0 1 c) → P27 σ := fun hn => by
    refine h27 _ (h28 _ _ ?_)
    refine x_ref hR (fun _ => ?_) (fun q => absurd rfl q) (fun q => absurd rfl q)
    have := hQ σ KX.rf
    rw [show aTerm A a b c = -1 from ans_bad hn] at this
    exact this
  refine x_isHeir hR.2.1 (fun h => b01 (bad (fun q => h q.1))) (fun ha => b11 ?_)
  refine x_isAhead (fun h => b01 (bad (fun q => h q.2.1))) (fun hb => b11 ?_)
  refine x_isWhich (fun h => b01 (bad (fun q => h q.2.2))) (fun hc' => b11 ?_)
  apply h28
  refine x_ref hR (fun q => absurd q (by decide)) (fun _ q => ?_) (fun _ h2 => ?_)
  · have := hQ σ KX.rf
    rw [show aTerm A a b c = -2 from ans_two ⟨ha, hb, hc'⟩ q] at this
    exact this
  obtain ⟨g, hg, rfl⟩ := hc_of w ha
  obtain ⟨n, hn, rfl⟩ := wc_of (n := 60) rfl (by omega) hb
  have hQ' : ∀ τ : Mem, KX σ τ → Q (vTerm A g n c) τ := fun τ t => by
    have := hQ τ t
    rw [show aTerm A (nI g) (nI n) c = vTerm A (nI g).toNatClampNeg (nI n).toNatClampNeg c from ans_yes ⟨ha, hb, hc'⟩ h2, nI_clamp (by omega), nI_clamp (by omega)] at this
    exact this
  have ok : ∀ v, 1 ≤ v → v ≤ 30 → okT 3 v := fun v h1 h2 => by unfold okT; omega
  have f0 : bst (fTerm A g n) 30 1 (-1, -4) = bst (fTerm A g n) 29 2 (fTerm A g n 1, nI 1) := bst_first rfl (bnd32 (hR.1.set hg (ok 1 (by omega) (by omega))) (by rw [setA_ne (by omega)]; exact h2))
  have key : ∀ m j : Nat, ∀ s : Int32 × Int32, ∀ τ : Mem, j + m = 31 → 1 ≤ j → bst (fTerm A g n) m j s = bst (fTerm A g n) 30 1 (-1, -4) → KX σ τ → P51 s.1 s.2 (nI j) τ := by
    intro m
    induction m with
    | zero =>
      intro j s τ hj hl g1 g4
      apply h51
      refine pk_lt 30 j (fun _ => x_wom ?_) (fun q => by omega)
      have e : s = bst (fTerm A g n) 29 2 (fTerm A g n 1, nI 1) := by rw [← f0]; exact g1
      have hne := bst_ne (f := fTerm A g n) 29 2 (fTerm A g n 1, nI 1) (by omega) ⟨1, by omega, rfl⟩
      rw [← e] at hne
      obtain ⟨q, hq, eq⟩ := hne
      rw [cs_f (by rw [eq]; exact nI_m4 hq)]
      have := hQ' τ g4
      unfold vTerm at this
      rw [← e] at this
      exact this
    | succ m ih =>
      intro j s τ hj hl g1 g4
      apply h51
      refine pk_lt 30 j (fun q => by omega) (fun _ => ?_)
      refine x_try (hR.now g4) (fun υ u1 _ u2 => ?_)
      refine ⟨pk_in g 6 (by omega), ?_⟩
      rintro _ rfl
      rw [tc3, Nat.one_mul, nI_clamp (show g < 2 ^ 31 by omega)]
      have hs := u1.setT (w := 3) (v := j) hg (ok j hl (by omega))
      refine x_works hs (by rw [setA_ne (by omega)]; exact h2) (by omega) (fun ψ p1 p2 p3 => ?_)
      have k : KX σ ψ := by
        refine g4.tr (u2.tr (KX.of (fun x y h => ?_) ?_))
        · rw [p2 x y h, mm1 (by omega)]
        · rw [p3]; rfl
      have go : ∀ s' : Int32 × Int32, s' = cs (fTerm A g n j ≤ s.1) s (fTerm A g n j, nI j) → P107 s'.1 s'.2 (nI j) ψ := by
        rintro _ rfl
        refine h107 _ _ _ _ ?_
        rintro _ rfl
        rw [nI_1]
        exact ih (j + 1) _ ψ (by omega) (by omega) g1 k
      exact ⟨fun z => go s (cs_t z).symm, fun z => go (fTerm A g n j, nI j) (cs_f z).symm⟩
  exact key 30 1 (-1, -4) σ (by omega) (by omega) rfl KX.rf
theorem m_term {a b c : Int32} {σ : Mem} {A : Nat → Nat} {Q : Int32 → Mem → Prop} (hR : Rl (σ.1 65) A) (hQ : ∀ τ : Mem, KM σ τ → Q (aTerm A a b c) τ) : wp_X6_term a b c σ Q := by
  have w := hR.1.1
  unfold wp_X6_term
  have bad : ¬ (hc A a ∧ wc 0 60 b ∧ wc 0 1 c) → Q (-1) σ := fun hn => by
    have := hQ σ KM.rf
    rw [show aTerm A a b c = -1 from ans_bad hn] at this
    exact this
  refine m_heir hR.2.1 (fun h => b01 (bad (fun q => h q.1))) (fun ha => b11 ?_)
  refine m_far (fun h => b01 (bad (fun q => h q.2.1))) (fun hb => b11 ?_)
  refine m_part (fun h => b00 (bad (fun q => h q.2.2))) (fun hc' => b10 ?_)
  refine m_twoR hR (fun q => b01 ?_) (fun h2 => b11 ?_)
  · have := hQ σ KM.rf
    rw [show aTerm A a b c = -2 from ans_two ⟨ha, hb, hc'⟩ q] at this
    exact this
  obtain ⟨g, hg, rfl⟩ := hc_of w ha
  obtain ⟨n, hn, rfl⟩ := wc_of (n := 60) rfl (by omega) hb
  rw [show (4 : Int32) = nI 4 from rfl, show (3 : Int32) = nI 3 from rfl, pk_mul, nI_add]
  refine m_best (cell := 4 * g + 3) (lo := 1) (hi := 30) (f := fTerm A g n) hR h2 (by omega) (by omega) (by omega) (by omega) (fun v hv1 hv τ t => ⟨_, t.setT (w := 3) hg (by unfold okT; omega), setA_ne (by omega), rfl⟩) (fun τ t => ?_)
  have := hQ τ t
  rw [show aTerm A (nI g) (nI n) c = vTerm A (nI g).toNatClampNeg (nI n).toNatClampNeg c from ans_yes ⟨ha, hb, hc'⟩ h2, nI_clamp (by omega), nI_clamp (by omega)] at this
  exact this
