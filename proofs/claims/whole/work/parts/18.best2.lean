/-! stool -/
noncomputable def fStool (A : Nat → Nat) (n h : Nat) : Int32 := nI (itA n (setA A (4 * h + 0) 3) 35) - nI (A 35)
noncomputable def few (f : Nat → Int32) : Nat → Nat → Int32 × Int32 → Int32 × Int32
  | 0, _, s => s
  | m + 1, v, s => few f m (v + 1) (cs (s.1 ≤ f v) s (f v, nI v))
noncomputable def pickA (s : Int32 × Int32) (b : Int32) : Int32 := cs (s.2 = -4) (-4) (cs (b = 0) s.2 s.1)
noncomputable def sStool (A : Nat → Nat) (n : Nat) : Int32 × Int32 := few (fStool A n) (A 24) 0 (nI (itA n A 35) - nI (A 35), -4)
noncomputable def aStool (A : Nat → Nat) (a b : Int32) : Int32 := ans (wc 0 60 a ∧ wc 0 1 b) A (pickA (sStool A a.toNatClampNeg) b)
theorem x_falls {d n : Nat} {σ : Mem} {A : Nat → Nat} {Q : Int32 → Mem → Prop} (hR : RX σ d A) (h2 : 2 ≤ A 24) (hn : n < 2 ^ 31)
    (hQ : ∀ τ : Mem, (∀ a b, (a < d ∨ d + 7 ≤ a) → τ.1 a b = σ.1 a b) → τ.2 = σ.2 → Q (nI (itA n A 35) - nI (A 35)) τ) : wp_X0_fallsIn d (nI n) σ Q := by
  rintro _ rfl
  have e := hR.2.2.2.2 35 (by omega) (by omega)
  simp only [Nat.reduceSub] at e
  rw [e]
  refine x_pass hR h2 hn (fun τ t1 t2 t3 => ?_)
  have e2 := t1.2.2.2.2 35 (by omega) (by omega)
  simp only [Nat.reduceSub] at e2
  rw [e2]
  exact hQ τ t2 t3
theorem x_stool {a b : Int32} {σ : Mem} {A : Nat → Nat} {Q : Int32 → Mem → Prop} (hR : RX σ 12 A) (hQ : ∀ τ : Mem, KX σ τ → Q (aStool A a b) τ) : wp_X5_stool a b σ Q := by
  have w := hR.1.1
  intro P19 P20 P58 P119 h19 h20 h58 h119
  have bad : ¬ (wc 0 60 a ∧ wc 0 1 b) → P19 σ := fun hn => by
    refine h19 _ (h20 _ _ ?_)
    refine x_ref hR (fun _ => ?_) (fun q => absurd rfl q) (fun q => absurd rfl q)
    have := hQ σ KX.rf
    rw [show aStool A a b = -1 from ans_bad hn] at this
    exact this
  refine x_isAhead (fun h => b01 (bad (fun q => h q.1))) (fun ha => b11 ?_)
  refine x_isWhich (fun h => b01 (bad (fun q => h q.2))) (fun hb => b11 ?_)
  apply h20
  refine x_ref hR (fun q => absurd q (by decide)) (fun _ q => ?_) (fun _ h2 => ?_)
  · have := hQ σ KX.rf
    rw [show aStool A a b = -2 from ans_two ⟨ha, hb⟩ q] at this
    exact this
  obtain ⟨n, hn, rfl⟩ := wc_of (n := 60) rfl (by omega) ha
  have hQ' : ∀ τ : Mem, KX σ τ → Q (pickA (sStool A n) b) τ := fun τ t => by
    have := hQ τ t
    rw [show aStool A (nI n) b = pickA (sStool A (nI n).toNatClampNeg) b from ans_yes ⟨ha, hb⟩ h2, nI_clamp (by omega)] at this
    exact this
  have key : ∀ m j : Nat, ∀ s : Int32 × Int32, ∀ τ : Mem, j + m = A 24 → few (fStool A n) m j s = sStool A n → KX σ τ → P58 s.1 s.2 (nI j) τ := by
    intro m
    induction m with
    | zero =>
      intro j s τ hj g1 g4
      apply h58
      rw [(hR.now g4).2.1]
      refine pk_le (A 24) j (fun _ => x_wom ?_) (fun q => by omega)
      have := hQ' τ g4
      rw [← g1] at this
      exact this
    | succ m ih =>
      intro j s τ hj g1 g4
      apply h58
      rw [(hR.now g4).2.1]
      refine pk_le (A 24) j (fun q => by omega) (fun _ => ?_)
      refine x_try (hR.now g4) (fun υ u1 _ u2 => ?_)
      refine ⟨pk_in j 6 (by omega), ?_⟩
      rintro _ rfl
      rw [tc0, Nat.one_mul, nI_clamp (show j < 2 ^ 31 by omega), show (3 : Int32) = nI 3 from rfl]
      have hs := u1.setT (h := j) (w := 0) (v := 3) (by omega) (by unfold okT; omega)
      refine x_falls hs (by rw [setA_ne (by omega)]; exact h2) (by omega) (fun ψ p2 p3 => ?_)
      have k : KX σ ψ := by
        refine g4.tr (u2.tr (KX.of (fun x y h => ?_) ?_))
        · rw [p2 x y h, mm1 (by omega)]
        · rw [p3]; rfl
      have go : ∀ s' : Int32 × Int32, s' = cs (s.1 ≤ fStool A n j) s (fStool A n j, nI j) → P119 s'.1 s'.2 (nI j) ψ := by
        rintro _ rfl
        refine h119 _ _ _ _ ?_
        rintro _ rfl
        rw [nI_1]
        exact ih (j + 1) _ ψ (by omega) g1 k
      rw [show setA A (4 * j + 0) 3 35 = A 35 from setA_ne (by omega)]
      exact ⟨fun z => go s (cs_t z).symm, fun z => go (fStool A n j, nI j) (cs_f z).symm⟩
  refine x_try hR (fun τ t1 _ t2 => ?_)
  refine x_falls t1 h2 (by omega) (fun ψ p2 p3 => ?_)
  exact key (A 24) 0 (nI (itA n A 35) - nI (A 35), -4) ψ (by omega) rfl (t2.tr (KX.of p2 p3))
theorem m_stool {a b : Int32} {σ : Mem} {A : Nat → Nat} {Q : Int32 → Mem → Prop} (hR : Rl (σ.1 65) A) (hQ : ∀ τ : Mem, KM σ τ → Q (aStool A a b) τ) : wp_X6_stool a b σ Q := by
  have w := hR.1.1
  intro P58 P117 P131 h58 h117 h131
  simp only [tc24, tc35] at h58
  have bad : ¬ (wc 0 60 a ∧ wc 0 1 b) → Q (-1) σ := fun hn => by
    have := hQ σ KM.rf
    rw [show aStool A a b = -1 from ans_bad hn] at this
    exact this
  refine m_far (fun h => b01 (bad (fun q => h q.1))) (fun ha => b11 ?_)
  refine m_part (fun h => b00 (bad (fun q => h q.2))) (fun hb => b10 ?_)
  refine m_twoR hR (fun q => b00 ?_) (fun h2 => b10 ?_)
  · have := hQ σ KM.rf
    rw [show aStool A a b = -2 from ans_two ⟨ha, hb⟩ q] at this
    exact this
  obtain ⟨n, hn, rfl⟩ := wc_of (n := 60) rfl (by omega) ha
  have hQ' : ∀ τ : Mem, KM σ τ → Q (pickA (sStool A n) b) τ := fun τ t => by
    have := hQ τ t
    rw [show aStool A (nI n) b = pickA (sStool A (nI n).toNatClampNeg) b from ans_yes ⟨ha, hb⟩ h2, nI_clamp (by omega)] at this
    exact this
  have key : ∀ m j : Nat, ∀ s : Int32 × Int32, ∀ τ : Mem, j + m = A 24 → few (fStool A n) m j s = sStool A n → KM σ τ → P58 s.1 s.2 (nI j) τ := by
    intro m
    induction m with
    | zero =>
      intro j s τ hj g1 g4
      apply h58
      rw [(hR.now g4).2.1]
      refine pk_le (A 24) j (fun _ => ?_) (fun q => by omega)
      have := hQ' τ g4
      rw [← g1] at this
      change Q (pickA s b) τ at this
      unfold pickA at this
      refine ⟨fun h => ⟨fun q => ?_, fun q => ?_⟩, fun h => ?_⟩
      · rw [cs_f h, cs_f q] at this; exact this
      · rw [cs_f h, cs_t q] at this; exact this
      · rw [cs_t h] at this; exact this
    | succ m ih =>
      intro j s τ hj g1 g4
      apply h58
      rw [(hR.now g4).2.1]
      refine pk_le (A 24) j (fun q => by omega) (fun _ => ?_)
      refine m_try (hR.now g4) (fun υ u1 _ u2 => ?_)
      rw [show (0 : Int32) = nI 0 from rfl, show (3 : Int32) = nI 3 from rfl]
      refine m_becOf (by omega) ?_
      have hs := u1.setT (h := j) (w := 0) (v := 3) (by omega) (by unfold okT; omega)
      refine m_reignsGo hs (by rw [setA_ne (by omega)]; exact h2) (by omega) (fun ψ p1 p2 => ?_)
      have k : KM σ ψ := (g4.tr u2.st66).tr p2.km
      have e35 := p1.2.2.2.2 35 (by omega) (by omega)
      have f35 := (hR.now k).2.2.2.2 35 (by omega) (by omega)
      rw [e35, f35]
      rintro _ rfl
      have go : ∀ s' : Int32 × Int32, s' = cs (s.1 ≤ fStool A n j) s (fStool A n j, nI j) → P131 s'.2 (nI j) s'.1 ψ := by
        rintro _ rfl
        refine h131 _ _ _ _ ?_
        rintro _ rfl
        rw [nI_1]
        exact ih (j + 1) _ ψ (by omega) g1 k
      refine ⟨fun z => h117 _ _ _ _ _ ⟨fun _ => go s (cs_t z).symm, fun q => absurd z q⟩, fun z => h117 _ _ _ _ _ ⟨fun q => absurd q z, fun _ => go (fStool A n j, nI j) (cs_f z).symm⟩⟩
  refine m_try hR (fun τ t1 _ t2 => ?_)
  refine m_reignsGo t1 h2 (by omega) (fun ψ p1 p2 => ?_)
  have k : KM σ ψ := t2.tr p2.km
  have e35 := p1.2.2.2.2 35 (by omega) (by omega)
  have f35 := (hR.now k).2.2.2.2 35 (by omega) (by omega)
  rw [tc35, e35, f35]
  rintro _ rfl
  exact key (A 24) 0 (nI (itA n A 35) - nI (A 35), -4) ψ (by omega) rfl k
/-! order -/
def swpA (A : Nat → Nat) (i k : Nat) : Nat → Nat := setA (setA A (25 + i) (A (25 + k))) (25 + k) (A (25 + i))
theorem swp_l {A : Nat → Nat} {i k j : Nat} (hik : i ≠ k) : swpA A i k (25 + j) = if j = i then A (25 + k) else if j = k then A (25 + i) else A (25 + j) := by
  unfold swpA
  by_cases h1 : j = k
  · subst h1
    rw [setA_eq, if_neg (by omega), if_pos rfl]
  · rw [setA_ne (by omega)]
    by_cases h2 : j = i
    · subst h2
      rw [setA_eq, if_pos rfl]
    · rw [setA_ne (by omega), if_neg h2, if_neg h1]
theorem swp_o {A : Nat → Nat} {i k j : Nat} (hj : j < 25 ∨ 31 ≤ j) (hi : i < 6) (hk : k < 6) : swpA A i k j = A j := by
  unfold swpA
  rw [setA_ne (by omega), setA_ne (by omega)]
theorem WF.swp {A : Nat → Nat} {i k : Nat} (W : WF A) (hi : i < A 24) (hk : k < A 24) (hik : i ≠ k) : WF (swpA A i k) := by
  obtain ⟨w1, w2, w3, w4, w5, w6, w7⟩ := W
  have hn : swpA A i k 24 = A 24 := swp_o (by omega) (by omega) (by omega)
  refine ⟨by rw [hn]; exact w1, ?_, ?_, ?_, ?_, by rw [swp_o (by omega) (by omega) (by omega)]; exact w6, by rw [swp_o (by omega) (by omega) (by omega)]; exact w7⟩
  · intro g hg
    rw [hn] at hg
    rw [swp_o (by omega) (by omega) (by omega), swp_o (by omega) (by omega) (by omega), swp_o (by omega) (by omega) (by omega), swp_o (by omega) (by omega) (by omega)]
    exact w2 g hg
  · intro j hj
    rw [hn] at hj ⊢
    rw [swp_l hik]
    split
    · exact w3 k hk
    · split
      · exact w3 i hi
      · exact w3 j hj
  · intro x y hx hy q
    rw [hn] at hx hy
    rw [swp_l hik, swp_l hik] at q
    split at q <;> split at q <;> (try split at q) <;> (try split at q) <;> first | omega | (have := w4 _ _ (by omega) (by omega) q; omega)
  · intro g hg
    rw [hn] at hg ⊢
    obtain ⟨j, hj, e⟩ := w5 g hg
    by_cases h1 : j = i
    · exact ⟨k, hk, by rw [swp_l hik, if_neg (by omega), if_pos rfl, ← h1]; exact e⟩
    · by_cases h2 : j = k
      · exact ⟨i, hi, by rw [swp_l hik, if_pos rfl, ← h2]; exact e⟩
      · exact ⟨j, hj, by rw [swp_l hik, if_neg h1, if_neg h2]; exact e⟩
theorem x_swap {d i k : Nat} {σ : Mem} {A : Nat → Nat} {Q : Mem → Prop} (hR : RX σ d A) (hi : i < A 24) (hk : k < A 24) (hik : i ≠ k)
    (hQ : ∀ τ : Mem, RX τ d (swpA A i k) → (∀ a b, a ≠ d + 6 → τ.1 a b = σ.1 a b) → τ.2 = σ.2 → Q τ) : wp_X0_swap d (nI i) (nI k) σ Q := by
  have w1 := hR.1.1
  have hn : swpA A i k 24 = A 24 := swp_o (by omega) (by omega) (by omega)
  refine ⟨pk_in i 6 (by omega), ?_⟩
  rintro _ rfl
  refine ⟨pk_in k 6 (by omega), pk_in i 6 (by omega), ?_⟩
  rintro _ rfl
  refine ⟨pk_in k 6 (by omega), ?_⟩
  rintro _ rfl
  rw [nI_clamp (show i < 2 ^ 31 by omega), nI_clamp (show k < 2 ^ 31 by omega), hR.2.2.2.1 i hi, hR.2.2.2.1 k hk]
  refine hQ _ ⟨hR.1.swp hi hk hik, ?_, ?_, ?_, ?_⟩ (fun a b h => ?_) rfl
  · rw [mm1 (by omega), mm1 (by omega), hn]
    exact hR.2.1
  · intro h w hh hw
    rw [hn] at hh
    rw [mm1 (by omega), mm1 (by omega), swp_o (by omega) (by omega) (by omega)]
    exact hR.2.2.1 h w hh hw
  · intro j hj
    rw [hn] at hj
    rw [swp_l hik, st1_get, st1_get]
    by_cases h1 : j = k
    · subst h1
      rw [if_pos ⟨rfl, rfl⟩, if_neg (by omega), if_pos rfl]
    · rw [if_neg (by omega)]
      by_cases h2 : j = i
      · subst h2
        rw [if_pos ⟨rfl, rfl⟩, if_pos rfl]
      · rw [if_neg (by omega), if_neg h2, if_neg h1]
        exact hR.2.2.2.1 j hj
  · intro z z1 z2
    rw [mm1 (by omega), mm1 (by omega), swp_o (by omega) (by omega) (by omega)]
    exact hR.2.2.2.2 z z1 z2
  · rw [mm1 h, mm1 h]
noncomputable def fOrd (A : Nat → Nat) (n i k : Nat) : Int32 := nI (itA n (swpA A i k) 32)
noncomputable def ordK (A : Nat → Nat) (n i : Nat) : Nat → Nat → Int32 × Int32 → Int32 × Int32
  | 0, _, s => s
  | m + 1, k, s => ordK A n i m (k + 1) (cs (fOrd A n i k ≤ s.1) s (fOrd A n i k, nI (10 * i + k)))
noncomputable def ordI (A : Nat → Nat) (n : Nat) : Nat → Nat → Int32 × Int32 → Int32 × Int32
  | 0, _, s => s
  | m + 1, i, s => ordI A n m (i + 1) (ordK A n i (A 24 - (i + 1)) (i + 1) s)
noncomputable def sOrd (A : Nat → Nat) (n : Nat) : Int32 × Int32 := ordI A n (A 24) 0 (nI (itA n A 32), -4)
noncomputable def aOrder (A : Nat → Nat) (a b : Int32) : Int32 := ans (wc 0 60 a ∧ wc 0 1 b) A (pickA (sOrd A a.toNatClampNeg) b)
theorem x_order {a b : Int32} {σ : Mem} {A : Nat → Nat} {Q : Int32 → Mem → Prop} (hR : RX σ 12 A) (hQ : ∀ τ : Mem, KX σ τ → Q (aOrder A a b) τ) : wp_X5_order a b σ Q := by
  have w := hR.1.1
  intro P19 P20 P58 P76 P141 h19 h20 h58 h76 h141
  have bad : ¬ (wc 0 60 a ∧ wc 0 1 b) → P19 σ := fun hn => by
    refine h19 _ (h20 _ _ ?_)
    refine x_ref hR (fun _ => ?_) (fun q => absurd rfl q) (fun q => absurd rfl q)
    have := hQ σ KX.rf
    rw [show aOrder A a b = -1 from ans_bad hn] at this
    exact this
  refine x_isAhead (fun h => b01 (bad (fun q => h q.1))) (fun ha => b11 ?_)
  refine x_isWhich (fun h => b01 (bad (fun q => h q.2))) (fun hb => b11 ?_)
  apply h20
  refine x_ref hR (fun q => absurd q (by decide)) (fun _ q => ?_) (fun _ h2 => ?_)
  · have := hQ σ KX.rf
    rw [show aOrder A a b = -2 from ans_two ⟨ha, hb⟩ q] at this
    exact this
  obtain ⟨n, hn, rfl⟩ := wc_of (n := 60) rfl (by omega) ha
  have hQ' : ∀ τ : Mem, KX σ τ → Q (pickA (sOrd A n) b) τ := fun τ t => by
    have := hQ τ t
    rw [show aOrder A (nI n) b = pickA (sOrd A (nI n).toNatClampNeg) b from ans_yes ⟨ha, hb⟩ h2, nI_clamp (by omega)] at this
    exact this
  have inner : ∀ i : Nat, i < A 24 → (∀ s : Int32 × Int32, ∀ τ : Mem, ordI A n (A 24 - (i + 1)) (i + 1) s = sOrd A n → KX σ τ → P58 s.1 s.2 (nI (i + 1)) τ) → ∀ m k : Nat, ∀ s : Int32 × Int32, ∀ τ : Mem, k + m = A 24 → i < k → ordI A n (A 24 - (i + 1)) (i + 1) (ordK A n i m k s) = sOrd A n → KX σ τ → P76 s.1 s.2 (nI i) (nI k) τ := by
    intro i hi out m
    induction m with
    | zero =>
      intro k s τ hk hik g1 g4
      apply h76
      rw [(hR.now g4).2.1]
      refine pk_le (A 24) k (fun _ => ?_) (fun q => by omega)
      rintro _ rfl
      rw [nI_1]
      exact out s τ g1 g4
    | succ m ih =>
      intro k s τ hk hik g1 g4
      apply h76
      rw [(hR.now g4).2.1]
      refine pk_le (A 24) k (fun q => by omega) (fun _ => ?_)
      refine x_try (hR.now g4) (fun υ u1 _ u2 => ?_)
      refine x_swap u1 hi (by omega) (by omega) (fun φ f1 f2 f3 => ?_)
      refine x_works f1 (by rw [swp_o (by omega) (by omega) (by omega)]; exact h2) (by omega) (fun ψ p1 p2 p3 => ?_)
      have kk : KX σ ψ := by
        refine g4.tr (u2.tr (KX.of (fun x y h => ?_) ?_))
        · rw [p2 x y h, f2 x y (by omega)]
        · rw [p3, f3]
      have go : ∀ s' : Int32 × Int32, s' = cs (fOrd A n i k ≤ s.1) s (fOrd A n i k, nI (10 * i + k)) → P141 s'.1 s'.2 (nI i) (nI k) ψ := by
        rintro _ rfl
        refine h141 _ _ _ _ _ ?_
        rintro _ rfl
        rw [nI_1]
        exact ih (k + 1) _ ψ (by omega) (by omega) g1 kk
      refine ⟨fun z => go s (cs_t z).symm, fun z => ?_⟩
      rintro _ rfl
      rw [show (10 : Int32) = nI 10 from rfl, pk_mul, nI_add]
      exact go (fOrd A n i k, nI (10 * i + k)) (cs_f z).symm
  have outer : ∀ m i : Nat, ∀ s : Int32 × Int32, ∀ τ : Mem, i + m = A 24 → ordI A n m i s = sOrd A n → KX σ τ → P58 s.1 s.2 (nI i) τ := by
    intro m
    induction m with
    | zero =>
      intro i s τ hi g1 g4
      apply h58
      rw [(hR.now g4).2.1]
      refine pk_le (A 24) i (fun _ => x_wom ?_) (fun q => by omega)
      have := hQ' τ g4
      rw [← g1] at this
      exact this
    | succ m ih =>
      intro i s τ hi g1 g4
      apply h58
      rw [(hR.now g4).2.1]
      refine pk_le (A 24) i (fun q => by omega) (fun _ => ?_)
      rintro _ rfl
      rw [nI_1]
      have em : A 24 - (i + 1) = m := by omega
      refine inner i (by omega) (fun s' τ' q1 q2 => ih (i + 1) s' τ' (by omega) (by rw [em] at q1; exact q1) q2) (A 24 - (i + 1)) (i + 1) s τ (by omega) (by omega) ?_ g4
      rw [← g1]
      show ordI A n (A 24 - (i + 1)) (i + 1) _ = ordI A n m (i + 1) _
      rw [em]
  refine x_try hR (fun τ t1 _ t2 => ?_)
  refine x_works t1 h2 (by omega) (fun ψ p1 p2 p3 => ?_)
  exact outer (A 24) 0 (nI (itA n A 32), -4) ψ (by omega) rfl (t2.tr (KX.of p2 p3))
theorem m_order {a b : Int32} {σ : Mem} {A : Nat → Nat} {Q : Int32 → Mem → Prop} (hR : Rl (σ.1 65) A) (hQ : ∀ τ : Mem, KM σ τ → Q (aOrder A a b) τ) : wp_X6_order a b σ Q := by
  have w := hR.1.1
  intro P50 P68 P153 P177 h50 h68 h153 h177
  simp only [tc24, tc32, show (25 : Int32) = nI 25 from rfl] at h50 h68 h153
  have bad : ¬ (wc 0 60 a ∧ wc 0 1 b) → Q (-1) σ := fun hn => by
    have := hQ σ KM.rf
    rw [show aOrder A a b = -1 from ans_bad hn] at this
    exact this
  refine m_far (fun h => b01 (bad (fun q => h q.1))) (fun ha => b11 ?_)
  refine m_part (fun h => b00 (bad (fun q => h q.2))) (fun hb => b10 ?_)
  refine m_twoR hR (fun q => b00 ?_) (fun h2 => b10 ?_)
  · have := hQ σ KM.rf
    rw [show aOrder A a b = -2 from ans_two ⟨ha, hb⟩ q] at this
    exact this
  obtain ⟨n, hn, rfl⟩ := wc_of (n := 60) rfl (by omega) ha
  have hQ' : ∀ τ : Mem, KM σ τ → Q (pickA (sOrd A n) b) τ := fun τ t => by
    have := hQ τ t
    rw [show aOrder A (nI n) b = pickA (sOrd A (nI n).toNatClampNeg) b from ans_yes ⟨ha, hb⟩ h2, nI_clamp (by omega)] at this
    exact this
  have inner : ∀ i : Nat, i < A 24 → (∀ s : Int32 × Int32, ∀ τ : Mem, ordI A n (A 24 - (i + 1)) (i + 1) s = sOrd A n → KM σ τ → P50 s.1 s.2 (nI (i + 1)) τ) → ∀ m k : Nat, ∀ s : Int32 × Int32, ∀ τ : Mem, k + m = A 24 → i < k → ordI A n (A 24 - (i + 1)) (i + 1) (ordK A n i m k s) = sOrd A n → KM σ τ → P68 s.1 s.2 (nI i) (nI k) τ := by
    intro i hi out m
    induction m with
    | zero =>
      intro k s τ hk hik g1 g4
      apply h68
      rw [(hR.now g4).2.1]
      refine pk_le (A 24) k (fun _ => ?_) (fun q => by omega)
      rintro _ rfl
      rw [nI_1]
      exact out s τ g1 g4
    | succ m ih =>
      intro k s τ hk hik g1 g4
      apply h68
      rw [(hR.now g4).2.1]
      refine pk_le (A 24) k (fun q => by omega) (fun _ => ?_)
      refine m_try (hR.now g4) (fun υ u1 _ u2 => ?_)
      have hRu := hR.now (g4.tr u2)
      rw [nI_add, nI_add, nI_clamp (show 25 + i < 2 ^ 31 by omega), nI_clamp (show 25 + k < 2 ^ 31 by omega)]
      refine ⟨pk_in (25 + k) 147 (by omega), pk_in (25 + i) 49 (by omega), ?_⟩
      rintro _ rfl
      refine ⟨pk_in (25 + i) 147 (by omega), pk_in (25 + k) 49 (by omega), ?_⟩
      rintro _ rfl
      rw [mm1 (by omega), hRu.2.2.2.1 i hi, hRu.2.2.2.1 k (by omega)]
      have hsw : Rl ((st1 (st1 υ 66 (25 + i) (nI (A (25 + k)))) 66 (25 + k) (nI (A (25 + i)))).1 66) (swpA A i k) := by
        have hnn : swpA A i k 24 = A 24 := swp_o (by omega) (by omega) (by omega)
        refine ⟨u1.1.swp hi (by omega) (by omega), ?_, ?_, ?_, ?_⟩
        · rw [mm2 (by omega), mm2 (by omega), hnn]
          exact u1.2.1
        · intro h x hh hx
          rw [hnn] at hh
          rw [mm2 (by omega), mm2 (by omega), swp_o (by omega) (by omega) (by omega)]
          exact u1.2.2.1 h x hh hx
        · intro j hj
          rw [hnn] at hj
          rw [swp_l (by omega), st1_get, st1_get]
          by_cases h1 : j = k
          · subst h1
            rw [if_pos ⟨rfl, rfl⟩, if_neg (by omega), if_pos rfl]
          · rw [if_neg (by omega)]
            by_cases h2 : j = i
            · subst h2
              rw [if_pos ⟨rfl, rfl⟩, if_pos rfl]
            · rw [if_neg (by omega), if_neg h2, if_neg h1]
              exact u1.2.2.2.1 j hj
        · intro z z1 z2
          rw [mm2 (by omega), mm2 (by omega), swp_o (by omega) (by omega) (by omega)]
          exact u1.2.2.2.2 z z1 z2
      refine m_reignsGo hsw (by rw [swp_o (by omega) (by omega) (by omega)]; exact h2) (by omega) (fun ψ p1 p2 => ?_)
      have kk : KM σ ψ := (g4.tr u2.st66.st66).tr p2.km
      have e32 := p1.2.2.2.2 32 (by omega) (by omega)
      have go : ∀ s' : Int32 × Int32, s' = cs (fOrd A n i k ≤ s.1) s (fOrd A n i k, nI (10 * i + k)) → P177 s'.2 (nI i) (nI k) s'.1 ψ := by
        rintro _ rfl
        refine h177 _ _ _ _ _ ?_
        rintro _ rfl
        rw [nI_1]
        exact ih (k + 1) _ ψ (by omega) (by omega) g1 kk
      rw [e32]
      refine ⟨fun z => h153 _ _ _ _ _ ?_, fun z => h153 _ _ _ _ _ ?_⟩
      · rw [e32]
        exact ⟨fun _ => go s (cs_t z).symm, fun q => absurd z q⟩
      · rw [e32, show (10 : Int32) = nI 10 from rfl, pk_mul, nI_add]
        exact ⟨fun q => absurd q z, fun _ => go (fOrd A n i k, nI (10 * i + k)) (cs_f z).symm⟩
  have outer : ∀ m i : Nat, ∀ s : Int32 × Int32, ∀ τ : Mem, i + m = A 24 → ordI A n m i s = sOrd A n → KM σ τ → P50 s.1 s.2 (nI i) τ := by
    intro m
    induction m with
    | zero =>
      intro i s τ hi g1 g4
      apply h50
      rw [(hR.now g4).2.1]
      refine pk_le (A 24) i (fun _ => ?_) (fun q => by omega)
      have := hQ' τ g4
      rw [← g1] at this
      change Q (pickA s b) τ at this
      unfold pickA at this
      refine ⟨fun h => ⟨fun q => ?_, fun q => ?_⟩, fun h => ?_⟩
      · rw [cs_f h, cs_f q] at this; exact this
      · rw [cs_f h, cs_t q] at this; exact this
      · rw [cs_t h] at this; exact this
    | succ m ih =>
      intro i s τ hi g1 g4
      apply h50
      rw [(hR.now g4).2.1]
      refine pk_le (A 24) i (fun q => by omega) (fun _ => ?_)
      rintro _ rfl
      rw [nI_1]
      have em : A 24 - (i + 1) = m := by omega
      refine inner i (by omega) (fun s' τ' q1 q2 => ih (i + 1) s' τ' (by omega) (by rw [em] at q1; exact q1) q2) (A 24 - (i + 1)) (i + 1) s τ (by omega) (by omega) ?_ g4
      rw [← g1]
      show ordI A n (A 24 - (i + 1)) (i + 1) _ = ordI A n m (i + 1) _
      rw [em]
  refine m_try hR (fun τ t1 _ t2 => ?_)
  refine m_reignsGo t1 h2 (by omega) (fun ψ p1 p2 => ?_)
  have e32 := p1.2.2.2.2 32 (by omega) (by omega)
  rw [tc32, e32]
  rintro _ rfl
  exact outer (A 24) 0 (nI (itA n A 32), -4) ψ (by omega) rfl (t2.tr p2.km)
