/-! the reference's reign -/
theorem tc25 : ((25 : Int32)).toNatClampNeg = 25 := rfl
theorem tc26 : ((26 : Int32)).toNatClampNeg = 26 := rfl
theorem tc31 : ((31 : Int32)).toNatClampNeg = 31 := rfl
theorem tc32 : ((32 : Int32)).toNatClampNeg = 32 := rfl
theorem tc33 : ((33 : Int32)).toNatClampNeg = 33 := rfl
theorem tc34 : ((34 : Int32)).toNatClampNeg = 34 := rfl
theorem tc35 : ((35 : Int32)).toNatClampNeg = 35 := rfl
theorem tc36 : ((36 : Int32)).toNatClampNeg = 36 := rfl
theorem Rl.fr {g g' : Nat → Int32} {A : Nat → Nat} (h : Rl g A) (hk : ∀ k, k < 36 → g' k = g k) : Rl g' A := by
  obtain ⟨h0, h1, h2, h3, h4⟩ := h
  have w1 := h0.1
  exact ⟨h0, by rw [hk _ (by omega)]; exact h1, fun q w hq hw => by rw [hk _ (by omega)]; exact h2 q w hq hw, fun i hi => by rw [hk _ (by omega)]; exact h3 i hi, fun k a b => by rw [hk _ (by omega)]; exact h4 k a b⟩
/-- what a reign of the reference may change -/
def KR (σ τ : Mem) : Prop := (∀ a b, a ≠ 66 → ¬ (a = 64 ∧ 17 ≤ b ∧ b ≤ 19) → τ.1 a b = σ.1 a b) ∧ (∀ k, 36 ≤ k → τ.1 66 k = σ.1 66 k) ∧ τ.2 = σ.2
theorem KR.rf {σ : Mem} : KR σ σ := ⟨fun _ _ _ _ => rfl, fun _ _ => rfl, rfl⟩
theorem KR.tr {σ τ υ : Mem} (h1 : KR σ τ) (h2 : KR τ υ) : KR σ υ := ⟨fun a b q r => (h2.1 a b q r).trans (h1.1 a b q r), fun k q => (h2.2.1 k q).trans (h1.2.1 k q), h2.2.2.trans h1.2.2⟩
set_option maxHeartbeats 1000000 in
theorem m_reign {sl : Int32} {s : Bool} {σ : Mem} {A : Nat → Nat} {Q : Mem → Prop} (hsl : (sl = 0 ∧ s = false) ∨ (¬ sl = 0 ∧ s = true)) (hR : Rl (σ.1 66) A) (h2 : 2 ≤ A 24)
    (hQ : ∀ τ : Mem, Rl (τ.1 66) (crA A s) → τ.1 64 17 = nI (A 26) → τ.1 64 18 = nI (spanA A s) → τ.1 64 19 = bI (fellA A s) → KR σ τ → Q τ) : wp_X6_reignGoes sl σ Q := by
  have hR0 := hR
  obtain ⟨hW, hn, r2, r3, r4⟩ := hR
  have w1 := hW.1
  have b0 := hW.2.2.1 0 (by omega)
  have b1 := hW.2.2.1 1 (by omega)
  simp only [Nat.add_zero, Nat.reduceAdd] at b0 b1
  have e0 := r3 0 (by omega)
  have e1 := r3 1 (by omega)
  simp only [Nat.reduceAdd, Nat.add_zero] at e0 e1
  have et := r2 (A 26) 3 b1 (by omega)
  have es := r2 (A 26) 1 b1 (by omega)
  have bt := (hW.2.1 (A 26) b1).2.2.2.2
  have bs := (hW.2.1 (A 26) b1).2.1
  have hsp : spanA A s ≤ 30 := by unfold spanA; split <;> omega
  have hl := hW.2.2.2.2.2.1
  have w7 := hW.2.2.2.2.2.2
  have hh := hgt_le hW b0
  have r33 := r4 33 (by omega) (by omega)
  have r34 := r4 34 (by omega) (by omega)
  have r32 := r4 32 (by omega) (by omega)
  have r35 := r4 35 (by omega) (by omega)
  have r31 := r4 31 (by omega) (by omega)
  intro P47 P52 P88 P173 P202 P248 h47 h52 h88 h173 h202 h248
  rintro σ27 rfl
  simp only [tc26, e1]
  have hR27 : Rl ((st1 σ 64 17 (nI (A 26))).1 66) A := hR0.fr (fun k _ => by rw [st1_get, if_neg (by omega)])
  suffices G : P52 (bI (fellA A s)) (st1 σ 64 17 (nI (A 26))) by
    unfold fellA at G
    rcases hsl with ⟨rfl, rfl⟩ | ⟨hs, rfl⟩
    · refine ⟨fun z => absurd rfl z, fun _ => ?_⟩
      simp (disch := omega) only [mm1, mm2, mm3, tc25, tc31, e0, r31]
      rw [show (1 : Int32) = nI 1 from rfl]
      refine m_of (by omega) ?_
      simp (disch := omega) only [mm1, mm2, mm3, tc25, tc31, e0, r31, es]
      refine m_height hR27 b0 ?_
      have cmp : (nI (hgt A (A 25)) ≤ nI (A (4 * A 26 + 1)) - nI (A 31)) ↔ ¬ (A (4 * A 26 + 1) < A 31 + hgt A (A 25)) := by
        rw [Int32.le_iff_toInt_le, pk_sub_toInt (by omega) (by omega), nI_toInt (by omega)]
        omega
      rw [cmp]
      by_cases q : A (4 * A 26 + 1) < A 31 + hgt A (A 25)
      · refine ⟨fun z => absurd q z, fun _ => h47 _ ?_⟩
        simpa [q, bI] using G
      · refine ⟨fun _ => ?_, fun z => absurd q z⟩
        simpa [q, bI] using G
    · exact ⟨fun _ => h47 _ (by simpa [bI] using G), fun z => absurd z hs⟩
  apply h52
  refine ⟨by unfold bI; split <;> simp, ?_⟩
  rintro σ1 rfl
  suffices G : P88 (nI (spanA A s)) (st1 (st1 σ 64 17 (nI (A 26))) 64 19 (bI (fellA A s))) by
    simp (disch := omega) only [mm1, mm2, mm3]
    rw [show (3 : Int32) = nI 3 from rfl]
    unfold spanA at G
    cases hf : fellA A s
    · rw [hf] at G
      refine ⟨fun _ => ?_, fun z => absurd rfl z⟩
      refine m_of (by omega) ?_
      simp (disch := omega) only [mm1, mm2, mm3, et]
      simpa [hf] using G
    · rw [hf] at G
      refine ⟨fun z => absurd z (by decide), fun _ => ?_⟩
      refine m_of (by omega) ?_
      simp (disch := omega) only [mm1, mm2, mm3, et]
      rw [nI_1, show (2 : Int32) = nI 2 from rfl, pk_div (by omega) (by omega) (by omega)]
      simpa [hf] using G
  apply h88
  rintro σ7 rfl σ8 rfl σ9 rfl
  simp (disch := omega) only [mm1, mm2, mm3, tc33, tc34, tc35, tc32, r33, r34, nI_1, nI_add]
  have ef : ∀ R : Int32 → Mem → Prop, ∀ υ : Mem, R (bI (fellA A s)) υ → wp_X6_flag (bI (fellA A s)) υ R := by
    intro R υ hR
    cases hf : fellA A s
    · rw [hf] at hR
      exact ⟨fun _ => hR, fun z => absurd rfl z⟩
    · rw [hf] at hR
      exact ⟨fun z => absurd z (by decide), fun _ => hR⟩
  refine ef _ _ ?_
  rintro σ12 rfl
  simp (disch := omega) only [mm1, mm2, mm3, r35, r32]
  have e35 : nI (A 35) + bI (fellA A s) = nI (cntA A s 35) := by
    cases hf : fellA A s <;> simp [cntA, hf, bI, nI_1]
  rw [e35]
  obtain ⟨σ12, hσ⟩ : ∃ z, z = st1 (st1 (st1 (st1 (st1 (st1 σ 64 17 (nI (A 26))) 64 19 (bI (fellA A s))) 64 18 (nI (spanA A s))) 66 33 (nI (A 33 + 1))) 66 34 (nI (A 34 + spanA A s))) 66 35 (nI (cntA A s 35)) := ⟨_, rfl⟩
  rw [← hσ]
  have k17 : σ12.1 64 17 = nI (A 26) := by subst hσ; simp (disch := omega) only [mm1, mm2, mm3]
  have k18 : σ12.1 64 18 = nI (spanA A s) := by subst hσ; simp (disch := omega) only [mm1, mm2, mm3]
  have k19 : σ12.1 64 19 = bI (fellA A s) := by subst hσ; simp (disch := omega) only [mm1, mm2, mm3]
  have kKR : KR σ σ12 := by
    subst hσ
    refine ⟨fun a b q r => ?_, fun k q => ?_, rfl⟩
    · simp only [st1_get]
      repeat rw [if_neg (by omega)]
    · simp only [st1_get]
      repeat rw [if_neg (by omega)]
  have kR : Rl ((st1 σ12 66 32 (nI (cntA A s 32))).1 66) (cntA A s) := by
    subst hσ
    have hn24 : cntA A s 24 = A 24 := cntA_lo (by omega)
    refine ⟨hW.cnt, ?_, ?_, ?_, ?_⟩
    · simp (disch := omega) only [mm1, mm2, mm3, hn24]
      exact hn
    · intro h w hh hw
      rw [hn24] at hh
      rw [show cntA A s (4 * h + w) = A (4 * h + w) from cntA_lo (by omega)]
      simp (disch := omega) only [mm1, mm2, mm3]
      exact r2 h w hh hw
    · intro i hi
      rw [hn24] at hi
      rw [show cntA A s (25 + i) = A (25 + i) from cntA_lo (by omega)]
      simp (disch := omega) only [mm1, mm2, mm3]
      exact r3 i hi
    · intro k k1 k2
      rcases (show k = 31 ∨ k = 32 ∨ k = 33 ∨ k = 34 ∨ k = 35 by omega) with rfl | rfl | rfl | rfl | rfl
      all_goals simp (disch := omega) only [mm1, mm2, mm3]
      · rw [cntA_lo (by omega)]
        exact r31
      · simp [cntA]
      · simp [cntA]
  have hn24 : cntA A s 24 = A 24 := cntA_lo (by omega)
  have fin : P202 (nI (cntA A s 32)) 32 σ12 := by
    apply h202
    refine ⟨in_lit rfl, ?_⟩
    rintro σ16 rfl
    simp (disch := omega) only [mm1, mm2, mm3, tc32, k19]
    cases hf : fellA A s
    · refine ⟨fun _ => ?_, fun z => absurd rfl z⟩
      rw [show (0 : Int32) = nI 0 from rfl]
      refine m_goes kR (by omega) (fun τ1 t1 t2 t4 t3 => ?_)
      refine m_goes t1 (by rw [bhd_n (by omega)]; omega) (fun τ2 u1 u2 u4 u3 => ?_)
      refine hQ τ2 (by rw [crA_clean hf]; exact u1) ?_ ?_ ?_ ?_
      · rw [u2 _ _ (by omega), t2 _ _ (by omega)]
        simp (disch := omega) only [mm1, mm2, mm3]
        exact k17
      · rw [u2 _ _ (by omega), t2 _ _ (by omega)]
        simp (disch := omega) only [mm1, mm2, mm3]
        exact k18
      · rw [u2 _ _ (by omega), t2 _ _ (by omega)]
        simp (disch := omega) only [mm1, mm2, mm3]
        exact k19
      · refine kKR.tr ⟨fun a b q r => ?_, fun k q => ?_, ?_⟩
        · rw [u2 _ _ q, t2 _ _ q, st1_get, if_neg (by omega)]
        · rw [u4 _ (by omega), t4 _ (by omega), st1_get, if_neg (by omega)]
        · rw [u3, t3]
          rfl
    · refine ⟨fun z => absurd z (by decide), fun _ => ?_⟩
      rw [show (1 : Int32) = nI 1 from rfl]
      refine m_goes kR (by omega) (fun τ1 t1 t2 t4 t3 => ?_)
      have k17' : τ1.1 64 17 = nI (A 26) := by
        rw [t2 _ _ (by omega)]
        simp (disch := omega) only [mm1, mm2, mm3]
        exact k17
      have es' : τ1.1 66 (4 * A 26 + 1) = nI (A (4 * A 26 + 1)) := by
        have := t1.2.2.1 (A 26) 1 (by rw [bhd_n (by omega)]; omega) (by omega)
        rw [bhd_lo (by omega) (by omega), cntA_lo (by omega)] at this
        exact this
      rw [k17']
      have done : P248 (nI (A (4 * A 26 + 1) - 1)) (nI 1) (nI (A 26)) τ1 := by
        apply h248
        refine m_becOf (by omega) ?_
        refine hQ _ ?_ ?_ ?_ ?_ ?_
        · rw [crA_fell hW h2 hf]
          obtain ⟨v1, v2, v3, v4, v5⟩ := t1
          have hx24 : setA (bhd (cntA A s) 1) (4 * A 26 + 1) (A (4 * A 26 + 1) - 1) 24 = bhd (cntA A s) 1 24 := setA_ne (by omega)
          have hb24 : bhd (cntA A s) 1 24 = A 24 := by rw [bhd_n (by omega), hn24]
          refine ⟨?_, ?_, ?_, ?_, ?_⟩
          · have := hW.cr (s := s) h2
            rw [crA_fell hW h2 hf] at this
            exact this
          · rw [st1_get, if_neg (by omega), hx24]
            exact v2
          · intro h w hh hw
            rw [hx24] at hh
            rw [st1_get]
            by_cases e : h = A 26 ∧ w = 1
            · obtain ⟨rfl, rfl⟩ := e
              rw [if_pos ⟨rfl, rfl⟩, setA_eq]
            · rw [if_neg (by omega), setA_ne (by omega)]
              exact v3 h w hh hw
          · intro i hi
            rw [hx24] at hi
            rw [st1_get, if_neg (by omega), setA_ne (by omega)]
            exact v4 i hi
          · intro k k1 k2
            rw [st1_get, if_neg (by omega), setA_ne (by omega)]
            exact v5 k k1 k2
        · rw [st1_get, if_neg (by omega)]
          exact k17'
        · rw [st1_get, if_neg (by omega), t2 _ _ (by omega)]
          simp (disch := omega) only [mm1, mm2, mm3]
          exact k18
        · rw [st1_get, if_neg (by omega), t2 _ _ (by omega)]
          simp (disch := omega) only [mm1, mm2, mm3]
          exact k19
        · refine kKR.tr ⟨fun a b q r => ?_, fun k q => ?_, ?_⟩
          · rw [st1_get, if_neg (by omega), t2 _ _ q, st1_get, if_neg (by omega)]
          · rw [st1_get, if_neg (by omega), t4 _ (by omega), st1_get, if_neg (by omega)]
          · show τ1.2 = σ12.2
            rw [t3]
            rfl
      refine m_of (by omega) ?_
      rw [es']
      refine pk_le (A (4 * A 26 + 1)) 0 (fun z => ?_) (fun z => ?_)
      · rw [show A (4 * A 26 + 1) - 1 = 0 by omega, nI_0] at done
        exact done
      · rw [k17']
        refine m_of (by omega) ?_
        rw [es', pk_sub (by omega)]
        exact done
  refine ⟨fun q => ?_, fun q => ?_⟩
  · apply h173
    have hod : ¬ odd32 (A 33 + 1) := q
    have hv : cntA A s 32 = A 32 - spanA A s := by simp [cntA, hod]
    refine ⟨fun z => ?_, fun z => ?_⟩
    · have hle : spanA A s ≤ A 32 := by
        rw [Int32.le_iff_toInt_le, pk_sub_toInt (by omega) (by omega)] at z
        have : (0 : Int32).toInt = 0 := rfl
        omega
      rw [pk_sub hle, show (999 : Int32) = nI 999 from rfl]
      refine pk_le (A 32 - spanA A s) 999 (fun _ => ?_) (fun z2 => by omega)
      rw [← hv]
      exact fin
    · have hle : A 32 < spanA A s := by
        rcases Nat.lt_or_ge (A 32) (spanA A s) with h | h
        · exact h
        · exact absurd (by rw [pk_sub h]; exact nI_pos' (by omega)) z
      rw [show A 32 - spanA A s = 0 by omega] at hv
      rw [hv, nI_0] at fin
      exact fin
  · apply h173
    have hod : odd32 (A 33 + 1) := q
    have hv : cntA A s 32 = min 999 (A 32 + spanA A s) := by simp [cntA, hod]
    rw [nI_add]
    refine ⟨fun _ => ?_, fun z => absurd (nI_pos' (by omega)) z⟩
    rw [show (999 : Int32) = nI 999 from rfl]
    refine pk_le (A 32 + spanA A s) 999 (fun z => ?_) (fun z => ?_)
    · rw [Nat.min_eq_right z] at hv
      rw [← hv]
      exact fin
    · rw [Nat.min_eq_left (by omega)] at hv
      rw [hv] at fin
      exact fin
theorem m_reign0 {σ : Mem} {A : Nat → Nat} {Q : Mem → Prop} (hR : Rl (σ.1 66) A) (h2 : 2 ≤ A 24)
    (hQ : ∀ τ : Mem, Rl (τ.1 66) (crA A false) → τ.1 64 17 = nI (A 26) → τ.1 64 18 = nI (spanA A false) → τ.1 64 19 = bI (fellA A false) → KR σ τ → Q τ) : wp_X6_reignGoes 0 σ Q := m_reign (Or.inl ⟨rfl, rfl⟩) hR h2 hQ
theorem m_reignsGo {n : Nat} {σ : Mem} {A : Nat → Nat} {Q : Mem → Prop} (hR : Rl (σ.1 66) A) (h2 : 2 ≤ A 24) (hn : n < 2 ^ 31)
    (hQ : ∀ τ : Mem, Rl (τ.1 66) (itA n A) → KR σ τ → Q τ) : wp_X6_reignsGo (nI n) σ Q := by
  intro P2 hP
  have key : ∀ m j : Nat, ∀ τ : Mem, j + m = n → Rl (τ.1 66) (itA j A) → KR σ τ → P2 (nI j) τ := by
    intro m
    induction m with
    | zero =>
      intro j τ hj g1 g2
      apply hP
      refine pk_le n j (fun _ => ?_) (fun q => by omega)
      rw [show j = n by omega] at g1
      exact hQ τ g1 g2
    | succ m ih =>
      intro j τ hj g1 g2
      apply hP
      refine pk_le n j (fun q => by omega) (fun _ => ?_)
      refine m_reign0 g1 (by rw [(it_wf hR.1 h2 j).2]; exact h2) (fun υ u1 _ _ _ u2 => ?_)
      rintro _ rfl
      rw [nI_1]
      exact ih (j + 1) υ (by omega) u1 (g2.tr u2)
  exact key n 0 σ (by omega) hR KR.rf
/-- starts: the first 49 cells of st to now -/
theorem m_starts {σ : Mem} {Q : Mem → Prop} (hQ : ∀ τ : Mem, (∀ k, k < 49 → τ.1 66 k = σ.1 65 k) → (∀ a b, a ≠ 66 → τ.1 a b = σ.1 a b) → τ.2 = σ.2 → Q τ) : wp_X6_starts σ Q := by
  intro P2 hP
  have key : ∀ m j : Nat, ∀ τ : Mem, j + m = 49 → (∀ k, k < j → τ.1 66 k = σ.1 65 k) → (∀ a b, a ≠ 66 → τ.1 a b = σ.1 a b) → τ.2 = σ.2 → P2 (nI j) τ := by
    intro m
    induction m with
    | zero =>
      intro j τ hj g1 g2 g3
      apply hP
      refine pk_le 49 j (fun _ => ?_) (fun q => by omega)
      exact hQ τ (fun k hk => g1 k (by omega)) g2 g3
    | succ m ih =>
      intro j τ hj g1 g2 g3
      apply hP
      refine pk_le 49 j (fun q => by omega) (fun _ => ?_)
      refine ⟨pk_in j 147 (by omega), pk_in j 49 (by omega), ?_⟩
      rintro _ rfl _ rfl
      rw [nI_clamp (show j < 2 ^ 31 by omega), nI_1]
      refine ih (j + 1) _ (by omega) (fun k hk => ?_) (fun a b h => ?_) g3
      · rw [st1_get]
        by_cases e : k = j
        · subst e
          rw [if_pos ⟨rfl, rfl⟩]
          exact g2 _ _ (by omega)
        · rw [if_neg (by omega)]
          exact g1 k (by omega)
      · rw [st1_get, if_neg (by omega)]
        exact g2 a b h
  exact key 49 0 σ (by omega) (fun k hk => by omega) (fun _ _ _ => rfl) rfl
theorem m_settles {σ : Mem} {Q : Mem → Prop} (hQ : ∀ τ : Mem, (∀ k, k < 49 → τ.1 65 k = σ.1 66 k) → (∀ k, 49 ≤ k → τ.1 65 k = σ.1 65 k) → (∀ a b, a ≠ 65 → τ.1 a b = σ.1 a b) → τ.2 = σ.2 → Q τ) : wp_X6_settles σ Q := by
  intro P2 hP
  have key : ∀ m j : Nat, ∀ τ : Mem, j + m = 49 → (∀ k, k < j → τ.1 65 k = σ.1 66 k) → (∀ k, 49 ≤ k → τ.1 65 k = σ.1 65 k) → (∀ a b, a ≠ 65 → τ.1 a b = σ.1 a b) → τ.2 = σ.2 → P2 (nI j) τ := by
    intro m
    induction m with
    | zero =>
      intro j τ hj g1 g4 g2 g3
      apply hP
      refine pk_le 49 j (fun _ => ?_) (fun q => by omega)
      exact hQ τ (fun k hk => g1 k (by omega)) g4 g2 g3
    | succ m ih =>
      intro j τ hj g1 g4 g2 g3
      apply hP
      refine pk_le 49 j (fun q => by omega) (fun _ => ?_)
      refine ⟨pk_in j 49 (by omega), pk_in j 147 (by omega), ?_⟩
      rintro _ rfl _ rfl
      rw [nI_clamp (show j < 2 ^ 31 by omega), nI_1]
      refine ih (j + 1) _ (by omega) (fun k hk => ?_) (fun k hk => ?_) (fun a b h => ?_) g3
      · rw [st1_get]
        by_cases e : k = j
        · subst e
          rw [if_pos ⟨rfl, rfl⟩]
          exact g2 _ _ (by omega)
        · rw [if_neg (by omega)]
          exact g1 k (by omega)
      · rw [st1_get, if_neg (by omega)]
        exact g4 k hk
      · rw [st1_get, if_neg (by omega)]
        exact g2 a b h
  exact key 49 0 σ (by omega) (fun k hk => by omega) (fun _ _ => rfl) (fun _ _ _ => rfl) rfl
