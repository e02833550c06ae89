/-! A REIGN: the abstract one is well formed; the class's crown does it -/
theorem bhd_n {A : Nat → Nat} {p : Nat} (h : 0 < A 24) : bhd A p 24 = A 24 := by
  unfold bhd
  rw [if_neg (by omega), if_neg (by omega)]
theorem bhd_lo {A : Nat → Nat} {p k : Nat} (h : 0 < A 24) (hk : k < 25) : bhd A p k = A k := by
  unfold bhd
  rw [if_neg (by omega), if_neg (by omega)]
theorem bhd_hi {A : Nat → Nat} {p k : Nat} (h : A 24 ≤ 6) (hk : 31 ≤ k) : bhd A p k = A k := by
  unfold bhd
  rw [if_neg (by omega), if_neg (by omega)]
theorem bhd_l {A : Nat → Nat} {p i : Nat} (hp : p < A 24) (hi : i < A 24) : bhd A p (25 + i) = if i < p then A (25 + i) else if i + 1 < A 24 then A (25 + (i + 1)) else A (25 + p) := by
  unfold bhd
  by_cases h1 : i + 1 < A 24
  · by_cases h2 : i < p
    · rw [if_neg (by omega), if_neg (by omega), if_pos h2]
    · rw [if_pos (by omega), if_neg h2, if_pos h1]
      rfl
  · by_cases h2 : i < p
    · omega
    · rw [if_neg (by omega), if_pos (by omega), if_neg h2, if_neg h1]
theorem wfBhd {A : Nat → Nat} {p : Nat} (w : WF A) (hp : p < A 24) : WF (bhd A p) := by
  obtain ⟨w1, w2, w3, w4, w5, w6, w7⟩ := w
  have hn := bhd_n (A := A) (p := p) (by omega)
  have L : ∀ i, i < A 24 → ∃ j, j < A 24 ∧ bhd A p (25 + i) = A (25 + j) ∧ (j = if i < p then i else if i + 1 < A 24 then i + 1 else p) := by
    intro i hi
    rw [bhd_l hp hi]
    by_cases h2 : i < p
    · exact ⟨i, hi, by rw [if_pos h2], by rw [if_pos h2]⟩
    · by_cases h1 : i + 1 < A 24
      · exact ⟨i + 1, h1, by rw [if_neg h2, if_pos h1], by rw [if_neg h2, if_pos h1]⟩
      · exact ⟨p, hp, by rw [if_neg h2, if_neg h1], by rw [if_neg h2, if_neg h1]⟩
  refine ⟨by rw [hn]; exact w1, ?_, ?_, ?_, ?_, ?_, ?_⟩
  · intro h hh
    rw [hn] at hh
    rw [bhd_lo (by omega) (by omega), bhd_lo (by omega) (by omega), bhd_lo (by omega) (by omega), bhd_lo (by omega) (by omega)]
    exact w2 h hh
  · intro i hi
    rw [hn] at hi ⊢
    obtain ⟨j, hj, e, -⟩ := L i hi
    rw [e]
    exact w3 j hj
  · intro i j hi hj q
    rw [hn] at hi hj
    obtain ⟨a, ha, ea, xa⟩ := L i hi
    obtain ⟨b, hb, eb, xb⟩ := L j hj
    rw [ea, eb] at q
    have := w4 a b ha hb q
    subst this
    rw [xa] at xb
    split at xb <;> split at xb <;> (try split at xb) <;> (try split at xb) <;> omega
  · intro h hh
    rw [hn] at hh ⊢
    obtain ⟨i, hi, e⟩ := w5 h hh
    by_cases h1 : i < p
    · exact ⟨i, hi, by rw [bhd_l hp hi, if_pos h1]; exact e⟩
    · by_cases h2 : i = p
      · refine ⟨A 24 - 1, by omega, ?_⟩
        rw [bhd_l hp (by omega), if_neg (by omega), if_neg (by omega), ← h2]
        exact e
      · refine ⟨i - 1, by omega, ?_⟩
        rw [bhd_l hp (by omega), if_neg (by omega), if_pos (by omega), show i - 1 + 1 = i by omega]
        exact e
  · rw [bhd_hi w1 (by omega)]
    exact w6
  · rw [bhd_hi w1 (by omega)]
    exact w7
theorem cntA_lo {A : Nat → Nat} {s : Bool} {k : Nat} (hk : k < 32) : cntA A s k = A k := by
  unfold cntA
  rw [if_neg (by omega), if_neg (by omega), if_neg (by omega), if_neg (by omega)]
theorem cntA_32 {A : Nat → Nat} {s : Bool} (w : A 32 ≤ 999) : cntA A s 32 ≤ 999 := by
  unfold cntA
  rw [if_neg (by omega), if_neg (by omega), if_neg (by omega), if_pos rfl]
  split
  · exact Nat.min_le_left _ _
  · omega
theorem WF.cnt {A : Nat → Nat} {s : Bool} (w : WF A) : WF (cntA A s) := by
  obtain ⟨w1, w2, w3, w4, w5, w6, w7⟩ := w
  have hn : cntA A s 24 = A 24 := cntA_lo (by omega)
  refine ⟨by rw [hn]; exact w1, ?_, ?_, ?_, ?_, by rw [cntA_lo (by omega)]; exact w6, cntA_32 w7⟩
  · intro h hh
    rw [hn] at hh
    rw [cntA_lo (by omega), cntA_lo (by omega), cntA_lo (by omega), cntA_lo (by omega)]
    exact w2 h hh
  · intro i hi
    rw [hn] at hi ⊢
    rw [cntA_lo (by omega)]
    exact w3 i hi
  · intro i j hi hj q
    rw [hn] at hi hj
    rw [cntA_lo (by omega), cntA_lo (by omega)] at q
    exact w4 i j hi hj q
  · intro h hh
    rw [hn] at hh ⊢
    obtain ⟨i, hi, e⟩ := w5 h hh
    exact ⟨i, hi, by rw [cntA_lo (by omega)]; exact e⟩
/-- one trait changed -/
def setA (A : Nat → Nat) (k v : Nat) : Nat → Nat := fun j => if j = k then v else A j
theorem setA_ne {A : Nat → Nat} {k v j : Nat} (h : j ≠ k) : setA A k v j = A j := by unfold setA; rw [if_neg h]
theorem setA_eq {A : Nat → Nat} {k v : Nat} : setA A k v k = v := by unfold setA; rw [if_pos rfl]
def okT (w v : Nat) : Prop := (w = 0 ∧ v ≤ 3) ∨ (w = 1 ∧ v ≤ 20) ∨ (w = 2 ∧ 1 ≤ v ∧ v ≤ 20) ∨ (w = 3 ∧ 1 ≤ v ∧ v ≤ 30)
theorem WF.set {A : Nat → Nat} {h w v : Nat} (W : WF A) (hh : h < A 24) (hv : okT w v) : WF (setA A (4 * h + w) v) := by
  obtain ⟨w1, w2, w3, w4, w5, w6, w7⟩ := W
  have hw : w < 4 := by unfold okT at hv; omega
  have hn : setA A (4 * h + w) v 24 = A 24 := setA_ne (by omega)
  refine ⟨by rw [hn]; exact w1, ?_, ?_, ?_, ?_, by rw [setA_ne (by omega)]; exact w6, by rw [setA_ne (by omega)]; exact w7⟩
  · intro g hg
    rw [hn] at hg
    have := w2 g hg
    unfold okT at hv
    unfold setA
    by_cases e : g = h
    · subst e
      rcases hv with ⟨rfl, q⟩ | ⟨rfl, q⟩ | ⟨rfl, q, q2⟩ | ⟨rfl, q, q2⟩
      · rw [if_pos (by omega), if_neg (by omega), if_neg (by omega), if_neg (by omega)]; omega
      · rw [if_neg (by omega), if_pos (by omega), if_neg (by omega), if_neg (by omega)]; omega
      · rw [if_neg (by omega), if_neg (by omega), if_pos (by omega), if_neg (by omega)]; omega
      · rw [if_neg (by omega), if_neg (by omega), if_neg (by omega), if_pos (by omega)]; omega
    · rw [if_neg (by omega), if_neg (by omega), if_neg (by omega), if_neg (by omega)]
      exact this
  · intro i hi
    rw [hn] at hi ⊢
    rw [setA_ne (by omega)]
    exact w3 i hi
  · intro i j hi hj q
    rw [hn] at hi hj
    rw [setA_ne (by omega), setA_ne (by omega)] at q
    exact w4 i j hi hj q
  · intro g hg
    rw [hn] at hg ⊢
    obtain ⟨i, hi, e⟩ := w5 g hg
    exact ⟨i, hi, by rw [setA_ne (by omega)]; exact e⟩
theorem crA_fell {A : Nat → Nat} {s : Bool} (w : WF A) (h2 : 2 ≤ A 24) (h : fellA A s = true) : crA A s = setA (bhd (cntA A s) 1) (4 * A 26 + 1) (A (4 * A 26 + 1) - 1) := by
  funext k
  unfold crA
  rw [if_pos h]
  unfold setA
  by_cases e : k = 4 * A 26 + 1
  · rw [if_pos e, if_pos e, e]
  · rw [if_neg e, if_neg e]
theorem crA_clean {A : Nat → Nat} {s : Bool} (h : fellA A s = false) : crA A s = bhd (bhd (cntA A s) 0) 0 := by
  unfold crA
  rw [if_neg (by rw [h]; decide)]
theorem crA_n {A : Nat → Nat} {s : Bool} (w : WF A) (h2 : 2 ≤ A 24) : crA A s 24 = A 24 := by
  have b1 := w.2.2.1 1 (by omega)
  have hn : cntA A s 24 = A 24 := cntA_lo (by omega)
  cases h : fellA A s
  · rw [crA_clean h, bhd_n (by rw [bhd_n (by omega)]; omega), bhd_n (by omega)]
    exact hn
  · have w1 := w.1
    rw [crA_fell w h2 h, setA_ne (by omega), bhd_n (by omega)]
    exact hn
theorem WF.cr {A : Nat → Nat} {s : Bool} (w : WF A) (h2 : 2 ≤ A 24) : WF (crA A s) := by
  have b1 := w.2.2.1 1 (by omega)
  have hn : cntA A s 24 = A 24 := cntA_lo (by omega)
  cases h : fellA A s
  · rw [crA_clean h]
    exact wfBhd (wfBhd w.cnt (by omega)) (by rw [bhd_n (by omega)]; omega)
  · rw [crA_fell w h2 h]
    refine (wfBhd w.cnt (by omega)).set (by rw [bhd_n (by omega), hn]; exact b1) ?_
    have := (w.2.1 (A 26) b1).2.1
    unfold okT
    omega
/-! the class's crown -/
theorem RX.fr {σ τ : Mem} {d : Nat} {A : Nat → Nat} (h : RX σ d A) (hk : ∀ a b, d ≤ a → a < d + 7 → ¬ (a = d ∧ 8 ≤ b) → τ.1 a b = σ.1 a b) : RX τ d A := by
  obtain ⟨h0, h1, h2, h3, h4⟩ := h
  exact ⟨h0, by rw [hk _ _ (by omega) (by omega) (by omega)]; exact h1, fun q w hq hw => by rw [hk _ _ (by omega) (by omega) (by omega)]; exact h2 q w hq hw, fun i hi => by rw [hk _ _ (by omega) (by omega) (by omega)]; exact h3 i hi, fun k a b => by rw [hk _ _ (by omega) (by omega) (by omega)]; exact h4 k a b⟩
theorem x_sendR {d p : Nat} {σ : Mem} {A : Nat → Nat} {Q : Mem → Prop} (hR : RX σ d A) (hp : p < A 24)
    (hQ : ∀ τ : Mem, RX τ d (bhd A p) → (∀ a b, a ≠ d + 6 → τ.1 a b = σ.1 a b) → τ.2 = σ.2 → Q τ) : wp_X0_sendBehind d (nI p) σ Q := by
  obtain ⟨hW, hn, r2, r3, r4⟩ := hR
  have w1 := hW.1
  have e24 := bhd_n (A := A) (p := p) (by omega)
  refine x_send hn w1 hp (fun τ t1 t2 t3 => hQ τ ⟨wfBhd hW hp, ?_, ?_, ?_, ?_⟩ t2 t3)
  · rw [t2 _ _ (by omega), e24]
    exact hn
  · intro h w hh hw
    rw [e24] at hh
    rw [t2 _ _ (by omega), bhd_lo (by omega) (by omega)]
    exact r2 h w hh hw
  · intro i hi
    rw [e24] at hi
    rw [t1 i hi, bhd_l hp hi]
    by_cases h1 : i < p
    · rw [if_pos h1, if_pos h1]
      exact r3 i hi
    · rw [if_neg h1, if_neg h1]
      by_cases h2 : i + 1 < A 24
      · rw [if_pos h2, if_pos h2]
        exact r3 _ h2
      · rw [if_neg h2, if_neg h2]
        exact r3 _ hp
  · intro k k1 k2
    rw [t2 _ _ (by omega), bhd_hi w1 k1]
    exact r4 k k1 k2
def bI (b : Bool) : Int32 := if b = true then 1 else 0
theorem x_crown {d : Nat} {sl : Int32} {s : Bool} {σ : Mem} {A : Nat → Nat} {Q : Mem → Prop} (hsl : (sl = 0 ∧ s = false) ∨ (¬ sl = 0 ∧ s = true)) (hR : RX σ d A) (h2 : 2 ≤ A 24)
    (hQ : ∀ τ : Mem, RX τ d (crA A s) → τ.1 d 8 = nI (A 26) → τ.1 d 9 = nI (spanA A s) → τ.1 d 10 = bI (!(fellA A s)) → (odd32 (A 33 + 1) → τ.1 d 11 = 1) → (¬ odd32 (A 33 + 1) → τ.1 d 11 = 0) → (∀ a b, (a < d ∨ d + 7 ≤ a) → τ.1 a b = σ.1 a b) → τ.2 = σ.2 → Q τ) : wp_X0_crown d sl σ Q := by
  have hR0 := hR
  obtain ⟨hW, hn, r2, r3, r4⟩ := hR
  have w1 := hW.1
  have b0 := hW.2.2.1 0 (by omega)
  have b1 := hW.2.2.1 1 (by omega)
  simp only [Nat.add_zero, Nat.reduceAdd] at b0 b1
  have e1 := r3 1 (by omega)
  simp only [Nat.reduceAdd] at e1
  have et := r2 (A 26) 3 b1 (by omega)
  have bt := (hW.2.1 (A 26) b1).2.2.2.2
  have hsp : spanA A s ≤ 30 := by unfold spanA; split <;> omega
  intro P26 P27 P67 P109 P151 h26 h27 h67 h109 h151
  rintro σ20 rfl
  simp only [tc1, e1]
  have hR20 : RX (st1 σ d 8 (nI (A 26))) d A := hR0.fr (fun a b q1 q2 q3 => by rw [st1_get, if_neg (by omega)])
  refine x_clears hR20 h2 ?_
  suffices G : P27 (bI (!(fellA A s))) (st1 σ d 8 (nI (A 26))) by
    unfold fellA at G
    rcases hsl with ⟨rfl, rfl⟩ | ⟨hs, rfl⟩
    · by_cases q : A (4 * A 26 + 1) < A 31 + hgt A (A 25)
      · rw [if_pos q]
        refine ⟨fun _ => h26 _ ?_, fun z => absurd rfl z⟩
        simpa [q, bI] using G
      · rw [if_neg q]
        refine ⟨fun z => absurd z (by decide), fun _ => ⟨fun z => absurd rfl z, fun _ => ?_⟩⟩
        simpa [q, bI] using G
    · have G2 : P27 0 (st1 σ d 8 (nI (A 26))) := by simpa [bI] using G
      refine ⟨fun _ => h26 _ G2, fun _ => ⟨fun _ => h26 _ G2, fun z => absurd z hs⟩⟩
  apply h27
  refine ⟨by unfold bI; split <;> simp, ?_⟩
  rintro σ1 rfl
  suffices G : P67 (nI (spanA A s)) (st1 (st1 σ d 8 (nI (A 26))) d 10 (bI (!(fellA A s)))) by
    simp (disch := omega) only [mm1, mm2, mm3, tc3, Nat.one_mul, nI_clamp (show A 26 < 2 ^ 31 by omega), et]
    unfold spanA at G
    cases hf : fellA A s
    · rw [hf] at G
      refine ⟨fun z => absurd z (by decide), fun _ => ⟨pk_in (A 26) 6 (by omega), ?_⟩⟩
      simpa [hf] using G
    · rw [hf] at G
      refine ⟨fun _ => ⟨pk_in (A 26) 6 (by omega), ?_⟩, fun z => absurd rfl z⟩
      rw [nI_1, show (2 : Int32) = nI 2 from rfl, pk_div (by omega) (by omega) (by omega)]
      simpa [hf] using G
  apply h67
  rintro σ5 rfl σ6 rfl σ7 rfl
  have r33 := r4 33 (by omega) (by omega)
  have r34 := r4 34 (by omega) (by omega)
  have r32 := r4 32 (by omega) (by omega)
  have r35 := r4 35 (by omega) (by omega)
  simp only [Nat.reduceSub] at r33 r34 r32 r35
  simp (disch := omega) only [mm1, mm2, mm3, r33, r34, nI_1, nI_add]
  obtain ⟨σ7, hσ7⟩ : ∃ z, z = st1 (st1 (st1 (st1 (st1 σ d 8 (nI (A 26))) d 10 (bI (!(fellA A s)))) d 9 (nI (spanA A s))) d 5 (nI (A 33 + 1))) d 6 (nI (A 34 + spanA A s)) := ⟨_, rfl⟩
  rw [← hσ7]
  have fin : ∀ b11 : Int32, (odd32 (A 33 + 1) → b11 = 1) → (¬ odd32 (A 33 + 1) → b11 = 0) → P151 (nI (cntA A s 32)) (st1 σ7 d 11 b11) := by
    intro b11 ho1 ho2
    apply h151
    rintro σ11 rfl
    subst hσ7
    simp (disch := omega) only [mm1, mm2, mm3, r35, nI_1]
    cases hf : fellA A s
    · refine ⟨fun z => absurd z (by decide), fun _ => ?_⟩
      rw [show (0 : Int32) = nI 0 from rfl]
      have hRc : RX (st1 (st1 (st1 (st1 (st1 (st1 (st1 σ d 8 (nI (A 26))) d 10 (bI (!false))) d 9 (nI (spanA A s))) d 5 (nI (A 33 + 1))) d 6 (nI (A 34 + spanA A s))) d 11 b11) d 4 (nI (cntA A s 32))) d (cntA A s) := by
        refine ⟨hW.cnt, ?_, ?_, ?_, ?_⟩
        · simp (disch := omega) only [mm1, mm2, mm3]
          rw [cntA_lo (by omega)]
          exact hn
        · intro h w hh hw
          rw [cntA_lo (by omega)] at hh
          simp (disch := omega) only [mm1, mm2, mm3]
          rw [cntA_lo (by omega)]
          exact r2 h w hh hw
        · intro i hi
          rw [cntA_lo (by omega)] at hi
          simp (disch := omega) only [mm1, mm2, mm3]
          rw [cntA_lo (by omega)]
          exact r3 i hi
        · intro k k1 k2
          have r31 := r4 31 (by omega) (by omega)
          rcases (show k = 31 ∨ k = 32 ∨ k = 33 ∨ k = 34 ∨ k = 35 by omega) with rfl | rfl | rfl | rfl | rfl
          all_goals simp (disch := omega) only [mm1, mm2, mm3, Nat.reduceSub] at r31 ⊢
          · rw [cntA_lo (by omega)]
            exact r31
          · simp [cntA]
          · simp [cntA]
          · rw [r35]
            simp [cntA, hf]
      have hn24 : cntA A s 24 = A 24 := cntA_lo (by omega)
      refine x_sendR hRc (by omega) (fun τ1 t1 t2 t3 => ?_)
      refine x_sendR t1 (by rw [bhd_n (by omega)]; omega) (fun τ2 u1 u2 u3 => ?_)
      refine hQ τ2 (by rw [crA_clean hf]; exact u1) ?_ ?_ ?_ (fun q => ?_) (fun q => ?_) (fun a b hab => ?_) ?_
      · rw [u2 _ _ (by omega), t2 _ _ (by omega)]
        simp (disch := omega) only [mm1, mm2, mm3]
      · rw [u2 _ _ (by omega), t2 _ _ (by omega)]
        simp (disch := omega) only [mm1, mm2, mm3]
      · rw [u2 _ _ (by omega), t2 _ _ (by omega)]
        simp (disch := omega) only [mm1, mm2, mm3, hf]
      · rw [u2 _ _ (by omega), t2 _ _ (by omega)]
        simp (disch := omega) only [mm1, mm2, mm3]
        exact ho1 q
      · rw [u2 _ _ (by omega), t2 _ _ (by omega)]
        simp (disch := omega) only [mm1, mm2, mm3]
        exact ho2 q
      · rw [u2 _ _ (by omega), t2 _ _ (by omega)]
        simp (disch := omega) only [mm1]
      · rw [u3, t3]
        simp only [ms1]
    · refine ⟨fun _ => ?_, fun z => absurd rfl z⟩
      rintro σ13 rfl
      rw [show (1 : Int32) = nI 1 from rfl]
      have hRc : RX (st1 (st1 (st1 (st1 (st1 (st1 (st1 (st1 σ d 8 (nI (A 26))) d 10 (bI (!true))) d 9 (nI (spanA A s))) d 5 (nI (A 33 + 1))) d 6 (nI (A 34 + spanA A s))) d 11 b11) d 4 (nI (cntA A s 32))) d 7 (nI (A 35 + 1))) d (cntA A s) := by
        refine ⟨hW.cnt, ?_, ?_, ?_, ?_⟩
        · simp (disch := omega) only [mm1, mm2, mm3]
          rw [cntA_lo (by omega)]
          exact hn
        · intro h w hh hw
          rw [cntA_lo (by omega)] at hh
          simp (disch := omega) only [mm1, mm2, mm3]
          rw [cntA_lo (by omega)]
          exact r2 h w hh hw
        · intro i hi
          rw [cntA_lo (by omega)] at hi
          simp (disch := omega) only [mm1, mm2, mm3]
          rw [cntA_lo (by omega)]
          exact r3 i hi
        · intro k k1 k2
          have r31 := r4 31 (by omega) (by omega)
          rcases (show k = 31 ∨ k = 32 ∨ k = 33 ∨ k = 34 ∨ k = 35 by omega) with rfl | rfl | rfl | rfl | rfl
          all_goals simp (disch := omega) only [mm1, mm2, mm3, Nat.reduceSub] at r31 ⊢
          · rw [cntA_lo (by omega)]
            exact r31
          · simp [cntA]
          · simp [cntA]
          · simp [cntA, hf]
      have hn24 : cntA A s 24 = A 24 := cntA_lo (by omega)
      refine x_sendR hRc (by omega) (fun τ1 t1 t2 t3 => ?_)
      have k8 : τ1.1 d 8 = nI (A 26) := by
        rw [t2 _ _ (by omega)]
        simp (disch := omega) only [mm1, mm2, mm3]
      have es : τ1.1 (d + 2 + 1) (A 26) = nI (A (4 * A 26 + 1)) := by
        have := t1.2.2.1 (A 26) 1 (by rw [bhd_n (by omega)]; omega) (by omega)
        rw [bhd_lo (by omega) (by omega), cntA_lo (by omega)] at this
        exact this
      have bs := (hW.2.1 (A 26) b1).2.1
      rw [k8]
      simp only [nI_clamp (show A 26 < 2 ^ 31 by omega), nI_clamp (show 1 < 2 ^ 31 by omega), Nat.one_mul, es]
      refine ⟨pk_in (A 26) 6 (by omega), pk_in (A 26) 6 (by omega), ?_⟩
      have ev : (if (0 : Int32) < nI (A (4 * A 26 + 1)) - nI 1 then nI (A (4 * A 26 + 1)) - nI 1 else 0) = nI (A (4 * A 26 + 1) - 1) := by
        rcases Nat.eq_zero_or_pos (A (4 * A 26 + 1)) with z | z
        · rw [z]
          rfl
        · rw [pk_sub (by omega)]
          by_cases z2 : A (4 * A 26 + 1) - 1 = 0
          · rw [z2]
            rfl
          · rw [if_pos (by rw [show (0 : Int32) = nI 0 from rfl]; exact nI_lt (by omega) (by omega))]
      rw [ev]
      rintro σ17 rfl
      have f8 : ∀ b, (st1 τ1 (d + 2 + 1) (A 26) (nI (A (4 * A 26 + 1) - 1))).1 d b = τ1.1 d b := fun b => by rw [st1_get, if_neg (by omega)]
      refine hQ _ ?_ (by rw [f8]; exact k8) ?_ ?_ (fun q => ?_) (fun q => ?_) (fun a b hab => ?_) ?_
      · rw [crA_fell hW h2 hf]
        obtain ⟨v1, v2, v3, v4, v5⟩ := t1
        have hx24 : setA (bhd (cntA A s) 1) (4 * A 26 + 1) (A (4 * A 26 + 1) - 1) 24 = bhd (cntA A s) 1 24 := setA_ne (by omega)
        have hb24 : bhd (cntA A s) 1 24 = A 24 := by rw [bhd_n (by omega), hn24]
        refine ⟨?_, ?_, ?_, ?_, ?_⟩
        · have := hW.cr (s := s) h2
          rw [crA_fell hW h2 hf] at this
          exact this
        · rw [f8, hx24]
          exact v2
        · intro h w hh hw
          rw [hx24] at hh
          rw [st1_get]
          by_cases e : h = A 26 ∧ w = 1
          · obtain ⟨rfl, rfl⟩ := e
            rw [if_pos ⟨rfl, rfl⟩, setA_eq]
          · rw [if_neg (by omega), setA_ne (by omega)]
            exact v3 h w hh hw
        · intro i hi
          rw [hx24] at hi
          rw [st1_get, if_neg (by omega), setA_ne (by omega)]
          exact v4 i hi
        · intro k k1 k2
          rw [f8, setA_ne (by omega)]
          exact v5 k k1 k2
      · rw [f8, t2 _ _ (by omega)]
        simp (disch := omega) only [mm1, mm2, mm3]
      · rw [f8, t2 _ _ (by omega)]
        simp (disch := omega) only [mm1, mm2, mm3, hf]
      · rw [f8, t2 _ _ (by omega)]
        simp (disch := omega) only [mm1, mm2, mm3]
        exact ho1 q
      · rw [f8, t2 _ _ (by omega)]
        simp (disch := omega) only [mm1, mm2, mm3]
        exact ho2 q
      · rw [st1_get, if_neg (by omega), t2 _ _ (by omega)]
        simp (disch := omega) only [mm1]
      · simp only [ms1]
        rw [t3]
        simp only [ms1]
  have g5 : σ7.1 d 5 = nI (A 33 + 1) := by
    subst hσ7
    simp (disch := omega) only [mm1, mm2, mm3]
  have g4 : σ7.1 d 4 = nI (A 32) := by
    subst hσ7
    simp (disch := omega) only [mm1, mm2, mm3]
    exact r32
  have g9 : σ7.1 d 9 = nI (spanA A s) := by
    subst hσ7
    simp (disch := omega) only [mm1, mm2, mm3]
  have w7 := hW.2.2.2.2.2.2
  refine ⟨fun q => ?_, fun q => ?_⟩
  · apply h109
    refine ⟨Or.inl rfl, ?_⟩
    rintro σ9 rfl
    have hod : ¬ odd32 (A 33 + 1) := q
    refine ⟨fun _ => ?_, fun z => absurd mm3 z⟩
    simp (disch := omega) only [mm1, mm2, mm3, g4, g9]
    have ev : (if (0 : Int32) < nI (A 32) - nI (spanA A s) then nI (A 32) - nI (spanA A s) else 0) = nI (cntA A s 32) := by
      have : cntA A s 32 = A 32 - spanA A s := by simp [cntA, hod]
      rw [this]
      by_cases z : A 32 ≤ spanA A s
      · rw [show A 32 - spanA A s = 0 by omega]
        rcases Nat.lt_or_eq_of_le z with z2 | z2
        · rw [if_neg (fun k => by
            have := pk_sneg (a := A 32) (b := spanA A s) (by omega) z2
            exact Int32.lt_irrefl (Int32.lt_trans k this))]
          rfl
        · rw [z2, pk_sub (Nat.le_refl _), Nat.sub_self]
          rfl
      · rw [pk_sub (by omega), if_pos (by rw [show (0 : Int32) = nI 0 from rfl]; exact nI_lt (by omega) (by omega))]
    rw [ev]
    exact fin 0 (fun z => absurd z hod) (fun _ => rfl)
  · apply h109
    refine ⟨Or.inr rfl, ?_⟩
    rintro σ9 rfl
    have hod : odd32 (A 33 + 1) := q
    refine ⟨fun z => absurd z (by rw [mm3]; decide), fun _ => ?_⟩
    simp (disch := omega) only [mm1, mm2, mm3, g4, g9]
    have ev : (if nI (A 32) + nI (spanA A s) < (999 : Int32) then nI (A 32) + nI (spanA A s) else 999) = nI (cntA A s 32) := by
      have : cntA A s 32 = min 999 (A 32 + spanA A s) := by simp [cntA, hod]
      rw [this, nI_add, show (999 : Int32) = nI 999 from rfl]
      by_cases z : A 32 + spanA A s < 999
      · rw [if_pos (nI_lt z (by omega)), Nat.min_eq_right (by omega)]
      · rw [if_neg (nI_nlt (by omega) (by omega)), Nat.min_eq_left (by omega)]
    rw [ev]
    exact fin 1 (fun _ => rfl) (fun z => absurd hod z)
