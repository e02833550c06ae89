/-! the class's dynasty: its methods over the abstract one -/
theorem tc0 : ((0 : Int32)).toNatClampNeg = 0 := rfl
theorem tc1 : ((1 : Int32)).toNatClampNeg = 1 := rfl
theorem tc2 : ((2 : Int32)).toNatClampNeg = 2 := rfl
theorem tc3 : ((3 : Int32)).toNatClampNeg = 3 := rfl
theorem nI_p1 {n : Nat} (h : 0 < n) : nI n - 1 = nI (n - 1) := by
  obtain ⟨k, rfl⟩ : ∃ k, n = k + 1 := ⟨n - 1, by omega⟩
  exact nI_pred k
theorem x_send {d p n : Nat} {σ : Mem} {Q : Mem → Prop} (hn : σ.1 d 2 = nI n) (hn6 : n ≤ 6) (hp : p < n)
    (hQ : ∀ τ : Mem, (∀ i, i < n → τ.1 (d + 6) i = if i < p then σ.1 (d + 6) i else if i + 1 < n then σ.1 (d + 6) (i + 1) else σ.1 (d + 6) p) → (∀ a b, a ≠ d + 6 → τ.1 a b = σ.1 a b) → τ.2 = σ.2 → Q τ) : wp_X0_sendBehind d (nI p) σ Q := by
  intro P11 hP
  refine ⟨pk_in p 6 (by omega), ?_⟩
  rintro _ rfl _ rfl
  rw [nI_clamp (show p < 2 ^ 31 by omega), nI_1]
  have key : ∀ m i : Nat, ∀ τ : Mem, i + m = n → p + 1 ≤ i → (∀ j, τ.1 (d + 6) j = if p ≤ j ∧ j + 1 < i then σ.1 (d + 6) (j + 1) else σ.1 (d + 6) j) → (∀ a b, a ≠ d + 6 → τ.1 a b = σ.1 a b) → τ.2 = σ.2 → P11 (σ.1 (d + 6) p) (nI i) τ := by
    intro m
    induction m with
    | zero =>
      intro i τ hi hpi h1 h2 h3
      apply hP
      rw [h2 _ _ (by omega), hn]
      refine pk_le n i (fun _ => ?_) (fun q => by omega)
      rw [nI_p1 (by omega)]
      refine ⟨pk_in (n - 1) 6 (by omega), ?_⟩
      rintro _ rfl
      rw [nI_clamp (show n - 1 < 2 ^ 31 by omega)]
      refine hQ _ (fun j hj => ?_) (fun a b h => ?_) h3
      · rw [st1_get, h1]
        by_cases e1 : j = n - 1
        · subst e1
          rw [if_pos ⟨rfl, rfl⟩, if_neg (by omega), if_neg (by omega)]
        · rw [if_neg (by omega)]
          by_cases e2 : j < p
          · rw [if_neg (by omega), if_pos e2]
          · rw [if_pos (by omega), if_neg e2, if_pos (by omega)]
      · rw [st1_get, if_neg (by omega)]
        exact h2 a b h
    | succ m ih =>
      intro i τ hi hpi h1 h2 h3
      apply hP
      rw [h2 _ _ (by omega), hn]
      refine pk_le n i (fun q => by omega) (fun _ => ?_)
      rw [nI_p1 (by omega)]
      refine ⟨pk_in i 6 (by omega), pk_in (i - 1) 6 (by omega), ?_⟩
      rintro _ rfl _ rfl
      rw [nI_clamp (show i - 1 < 2 ^ 31 by omega), nI_clamp (show i < 2 ^ 31 by omega), nI_1]
      refine ih (i + 1) _ (by omega) (by omega) (fun j => ?_) (fun a b h => ?_) h3
      · rw [st1_get, h1, h1]
        by_cases e1 : j = i - 1
        · subst e1
          rw [if_pos ⟨rfl, rfl⟩, if_neg (by omega), if_pos (by omega), show i - 1 + 1 = i by omega]
        · rw [if_neg (by omega)]
          by_cases e2 : p ≤ j ∧ j + 1 < i
          · rw [if_pos e2, if_pos (by omega)]
          · rw [if_neg e2, if_neg (by omega)]
      · rw [st1_get, if_neg (by omega)]
        exact h2 a b h
  refine key (n - (p + 1)) (p + 1) σ (by omega) (by omega) (fun j => ?_) (fun _ _ _ => rfl) rfl
  rw [if_neg (by omega)]
/-- heightOf -/
theorem x_height {d h : Nat} {σ : Mem} {A : Nat → Nat} {Q : Int32 → Mem → Prop} (hR : RX σ d A) (hh : h < A 24) (hQ : Q (nI (hgt A h)) σ) : wp_X0_heightOf d (nI h) σ Q := by
  obtain ⟨⟨w1, w2, -⟩, -, h2, -⟩ := hR
  obtain ⟨v0, v1, v2, v3, -⟩ := w2 h hh
  have eb := h2 h 2 hh (by omega)
  have ek := h2 h 0 hh (by omega)
  simp only [Nat.add_zero] at ek
  unfold wp_X0_heightOf
  simp only [tc0, tc2, Nat.mul_zero, Nat.add_zero, Nat.one_mul, nI_clamp (show h < 2 ^ 31 by omega), ek, eb]
  refine ⟨pk_in h 6 (by omega), ?_⟩
  rintro _ rfl _ rfl _ rfl
  have e1 : nI (A (4 * h + 2)) + (nI (A (4 * h + 2)) + 1) / 2 = nI (A (4 * h + 2) + (A (4 * h + 2) + 1) / 2) := by
    rw [nI_1, show (2 : Int32) = nI 2 from rfl, pk_div (by omega) (by omega) (by omega), nI_add]
  have e2 : nI (A (4 * h + 2) + (A (4 * h + 2) + 1) / 2) / 2 = nI ((A (4 * h + 2) + (A (4 * h + 2) + 1) / 2) / 2) := by
    rw [show (2 : Int32) = nI 2 from rfl, pk_div (by omega) (by omega) (by omega)]
  rw [e1, e2]
  refine ⟨pk_in h 6 (by omega), ?_, ?_, ?_, ?_⟩
  · intro q
    rw [show (1 : Int32) = nI 1 from rfl, nI_eq (by omega) (by omega)] at q
    unfold hgt at hQ
    rw [if_pos q] at hQ
    exact hQ
  · intro q
    rw [show (2 : Int32) = nI 2 from rfl, nI_eq (by omega) (by omega)] at q
    unfold hgt at hQ
    rw [if_neg (by omega), if_pos q] at hQ
    exact hQ
  · intro q
    rw [show (3 : Int32) = nI 3 from rfl, nI_eq (by omega) (by omega)] at q
    unfold hgt at hQ
    rw [if_neg (by omega), if_neg (by omega), if_pos q] at hQ
    by_cases hz : (A (4 * h + 2) + (A (4 * h + 2) + 1) / 2) / 2 = 0
    · omega
    · rw [nI_p1 (by omega)]
      by_cases hz2 : (A (4 * h + 2) + (A (4 * h + 2) + 1) / 2) / 2 - 1 = 0
      · rw [hz2] at hQ ⊢
        rw [if_neg (by decide)]
        exact hQ
      · rw [if_pos (by rw [show (0 : Int32) = nI 0 from rfl]; exact nI_lt (by omega) (by omega))]
        exact hQ
  · intro q1 q2 q3
    rw [show (1 : Int32) = nI 1 from rfl, nI_eq (by omega) (by omega)] at q1
    rw [show (2 : Int32) = nI 2 from rfl, nI_eq (by omega) (by omega)] at q2
    rw [show (3 : Int32) = nI 3 from rfl, nI_eq (by omega) (by omega)] at q3
    unfold hgt at hQ
    rw [if_neg q1, if_neg q2, if_neg q3] at hQ
    exact hQ
theorem hgt_le {A : Nat → Nat} {h : Nat} (w : WF A) (hh : h < A 24) : hgt A h ≤ 30 := by
  obtain ⟨v0, v1, v2, v3, -⟩ := w.2.1 h hh
  unfold hgt
  split
  · omega
  · split
    · omega
    · split <;> omega
/-- placeOf -/
theorem x_place {d i : Nat} {σ : Mem} {A : Nat → Nat} {Q : Int32 → Mem → Prop} (hR : RX σ d A) (hi : i < A 24) (hQ : Q (nI i) σ) : wp_X0_placeOf d (nI (A (25 + i))) σ Q := by
  obtain ⟨⟨w1, w2, w3, w4, -⟩, hn, h2, h3, -⟩ := hR
  intro P2 hP
  have key : ∀ m j : Nat, j + m = i → P2 (nI j) σ := by
    intro m
    induction m with
    | zero =>
      intro j hj
      apply hP
      rw [hn]
      refine pk_le (A 24) j (fun q => by omega) (fun _ => ?_)
      refine ⟨pk_in j 6 (by omega), ?_, ?_⟩
      · rw [nI_clamp (by omega), h3 j (by omega), show j = i by omega]
        exact fun q => absurd rfl q
      · intro _
        rw [show j = i by omega]
        exact hQ
    | succ m ih =>
      intro j hj
      apply hP
      rw [hn]
      refine pk_le (A 24) j (fun q => by omega) (fun _ => ?_)
      refine ⟨pk_in j 6 (by omega), ?_, ?_⟩
      · intro _
        rintro _ rfl
        rw [nI_1]
        exact ih (j + 1) (by omega)
      · rw [nI_clamp (by omega), h3 j (by omega)]
        intro q
        have b1 := w3 j (by omega)
        have b2 := w3 i hi
        rw [nI_eq (by omega) (by omega)] at q
        have := w4 j i (by omega) hi q
        omega
  exact key i 0 (by omega)
/-- copyFrom -/
theorem x_copy {d o : Nat} {σ : Mem} {A : Nat → Nat} {Q : Mem → Prop} (hR : RX σ o A) (hdo : d + 7 ≤ o ∨ o + 7 ≤ d)
    (hQ : ∀ τ : Mem, RX τ d A → τ.1 d 8 = -4 → (∀ a b, (a < d ∨ d + 7 ≤ a) → τ.1 a b = σ.1 a b) → τ.2 = σ.2 → Q τ) : wp_X0_copyFrom d o σ Q := by
  obtain ⟨hW, hn, h2, h3, h4⟩ := hR
  have w1 := hW.1
  intro P2 hP
  have key : ∀ m j : Nat, ∀ τ : Mem, j + m = 4 → (∀ w b, w < j → b < 6 → τ.1 (d + 2 + w) b = σ.1 (o + 2 + w) b) → (∀ a b, (a < d ∨ d + 7 ≤ a) → τ.1 a b = σ.1 a b) → τ.2 = σ.2 → P2 (nI j) τ := by
    intro m
    induction m with
    | zero =>
      intro j τ hj g1 g2 g3
      apply hP
      refine pk_le 4 j (fun _ => ?_) (fun q => by omega)
      rintro _ rfl _ rfl _ rfl _ rfl _ rfl _ rfl _ rfl _ rfl
      refine hQ _ ⟨hW, ?_, ?_, ?_, ?_⟩ ?_ ?_ ?_
      · simp (disch := omega) only [mm1, mm2, mm3, mc1, mc3]
        rw [g2 _ _ (by omega)]
        exact hn
      · intro h w hh hw
        simp (disch := omega) only [mm1, mm2, mm3, mc1, mc3]
        rw [g1 w h (by omega) (by omega)]
        exact h2 h w hh hw
      · intro i hi
        simp (disch := omega) only [mm1, mm2, mm3, mc1, mc3]
        rw [cpy6 (by omega), g2 _ _ (by omega)]
        exact h3 i hi
      · intro k k1 k2
        have hk := h4 k k1 k2
        rcases (show k = 31 ∨ k = 32 ∨ k = 33 ∨ k = 34 ∨ k = 35 by omega) with rfl | rfl | rfl | rfl | rfl
        all_goals
          simp (disch := omega) only [mm1, mm2, mm3, mc1, mc3, Nat.reduceSub] at hk ⊢
          rw [g2 _ _ (by omega)]
          exact hk
      · simp (disch := omega) only [mm1, mm2, mm3, mc1, mc3]
      · intro a b hab
        simp (disch := omega) only [mm1, mc1]
        exact g2 a b hab
      · simp only [ms1, msC]
        exact g3
    | succ m ih =>
      intro j τ hj g1 g2 g3
      apply hP
      refine pk_le 4 j (fun q => by omega) (fun _ => ?_)
      refine ⟨pk_in j 4 (by omega), pk_in j 4 (by omega), ?_⟩
      rintro _ rfl _ rfl
      rw [nI_clamp (show j < 2 ^ 31 by omega), nI_1]
      refine ih (j + 1) _ (by omega) (fun w b hw hb => ?_) (fun a b h => ?_) g3
      · rw [stC_get]
        by_cases e : w = j
        · subst e
          rw [if_pos (by omega), pk_cpy_in (by omega) (by omega), g2 _ _ (by omega)]
          simp
        · rw [if_neg (by omega)]
          exact g1 w b (by omega) hb
      · rw [stC_get, if_neg (by omega)]
        exact g2 a b h
  exact key 4 0 σ (by omega) (fun w b hw => by omega) (fun _ _ _ => rfl) rfl
/-- clears -/
theorem x_clears {d : Nat} {σ : Mem} {A : Nat → Nat} {Q : Int32 → Mem → Prop} (hR : RX σ d A) (h2 : 2 ≤ A 24) (hQ : Q (if A (4 * A 26 + 1) < A 31 + hgt A (A 25) then 0 else 1) σ) : wp_X0_clears d σ Q := by
  have hR' := hR
  obtain ⟨⟨w1, w2, w3, -⟩, hn, r2, r3, r4⟩ := hR
  have b0 := w3 0 (by omega)
  have b1 := w3 1 (by omega)
  simp only [Nat.add_zero, Nat.reduceAdd] at b0 b1
  have e0 := r3 0 (by omega)
  have e1 := r3 1 (by omega)
  have es := r2 (A 26) 1 b1 (by omega)
  have el := r4 31 (by omega) (by omega)
  have hl := (hR'.1).2.2.2.2.2.1
  have hs := (w2 (A 26) b1).2.1
  have hh := hgt_le hR'.1 b0
  simp only [Nat.add_zero, Nat.reduceAdd, Nat.reduceSub] at e0 e1 el
  unfold wp_X0_clears
  simp only [tc0, tc1, Nat.one_mul, e0, e1, nI_clamp (show A 26 < 2 ^ 31 by omega), es, el]
  refine ⟨pk_in (A 26) 6 (by omega), ?_⟩
  refine x_height hR' b0 ?_
  have cmp : (nI (A (4 * A 26 + 1)) - nI (A 31) < nI (hgt A (A 25))) ↔ A (4 * A 26 + 1) < A 31 + hgt A (A 25) := by
    rw [Int32.lt_iff_toInt_lt, pk_sub_toInt (by omega) (by omega), nI_toInt (by omega)]
    omega
  rw [cmp]
  by_cases q : A (4 * A 26 + 1) < A 31 + hgt A (A 25)
  · rw [if_pos q] at hQ
    exact br_t q hQ
  · rw [if_neg q] at hQ
    exact br_f q hQ
