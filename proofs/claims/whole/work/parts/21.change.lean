/-! what is changed -/
def tOK (b c : Int32) : Prop := (b = 0 ∧ wc 0 3 c) ∨ (b = 1 ∧ wc 0 20 c) ∨ (b = 2 ∧ wc 1 20 c) ∨ (b = 3 ∧ wc 1 30 c)
theorem tOK_of {b c : Int32} (h : tOK b c) : ∃ w v, b = nI w ∧ c = nI v ∧ okT w v := by
  unfold okT
  rcases h with ⟨rfl, h⟩ | ⟨rfl, h⟩ | ⟨rfl, h⟩ | ⟨rfl, h⟩
  · obtain ⟨j, hj, rfl⟩ := wc_of (n := 3) rfl (by omega) h
    exact ⟨0, j, rfl, rfl, by omega⟩
  · obtain ⟨j, hj, rfl⟩ := wc_of (n := 20) rfl (by omega) h
    exact ⟨1, j, rfl, rfl, by omega⟩
  · obtain ⟨j, h1, hj, rfl⟩ := wc1_of (n := 20) rfl (by omega) h
    exact ⟨2, j, rfl, rfl, by omega⟩
  · obtain ⟨j, h1, hj, rfl⟩ := wc1_of (n := 30) rfl (by omega) h
    exact ⟨3, j, rfl, rfl, by omega⟩
theorem x_isTrait {b c : Int32} {σ : Mem} {Q : Int32 → Mem → Prop} (hb : wc 0 3 b) (h1 : ¬ tOK b c → Q 0 σ) (h2 : tOK b c → Q 1 σ) : wp_X5_isTrait b c σ Q := by
  obtain ⟨w, hw, rfl⟩ := wc_of (n := 3) rfl (by omega) hb
  refine ⟨pk_in w 4 (by omega), pk_in w 4 (by omega), ?_⟩
  rw [nI_clamp (show w < 2 ^ 31 by omega)]
  have no : ∀ x y : Nat, x < 4 → y < 4 → x ≠ y → ¬ nI x = nI y := fun x y hx hy hxy q => hxy ((nI_eq (by omega) (by omega)).mp q)
  have t01 : ∀ w, w < 4 → tOK (nI w) c → wc (tLeast.getD w 0) (tGreat.getD w 0) c := by
    intro w hw h
    rcases h with ⟨e, h⟩ | ⟨e, h⟩ | ⟨e, h⟩ | ⟨e, h⟩
    · rw [(nI_eq (b := 0) (by omega) (by omega)).mp e]; exact h
    · rw [(nI_eq (b := 1) (by omega) (by omega)).mp e]; exact h
    · rw [(nI_eq (b := 2) (by omega) (by omega)).mp e]; exact h
    · rw [(nI_eq (b := 3) (by omega) (by omega)).mp e]; exact h
  have t10 : ∀ w, w < 4 → wc (tLeast.getD w 0) (tGreat.getD w 0) c → tOK (nI w) c := by
    intro w hw h
    rcases (show w = 0 ∨ w = 1 ∨ w = 2 ∨ w = 3 by omega) with rfl | rfl | rfl | rfl
    · exact Or.inl ⟨rfl, h⟩
    · exact Or.inr (Or.inl ⟨rfl, h⟩)
    · exact Or.inr (Or.inr (Or.inl ⟨rfl, h⟩))
    · exact Or.inr (Or.inr (Or.inr ⟨rfl, h⟩))
  exact x_wi (fun h => ⟨Or.inl rfl, h1 (fun q => h (t01 w (by omega) q))⟩) (fun h => ⟨Or.inr rfl, h2 (t10 w (by omega) h)⟩)
theorem tOK_w {b c : Int32} (h : tOK b c) : wc 0 3 b := by
  rcases h with ⟨rfl, h⟩ | ⟨rfl, h⟩ | ⟨rfl, h⟩ | ⟨rfl, h⟩ <;> exact ⟨by decide, by decide⟩
theorem x_takes {d : Nat} {a b c : Int32} {σ : Mem} {A : Nat → Nat} {Q : Int32 → Mem → Prop} (hR : RX σ d A) (h1 : ¬ (hc A a ∧ tOK b c) → Q 0 σ) (h2 : hc A a ∧ tOK b c → Q 1 σ) : wp_X0_takes d a b c σ Q := by
  unfold wp_X0_takes
  rw [hR.2.1]
  refine x_wi (fun h => b01 (h1 (fun q => h q.1))) (fun ha => b11 ?_)
  refine x_wi (fun h => b01 (h1 (fun q => h (tOK_w q.2)))) (fun hb => b11 ?_)
  exact x_isTrait hb (fun h => b01 (h1 (fun q => h q.2))) (fun h => b11 (h2 ⟨ha, h⟩))
theorem x_alter {a b c : Int32} {σ : Mem} {A : Nat → Nat} {Q : Int32 → Mem → Prop} (hR : RX σ 12 A) (h0 : ¬ (hc A a ∧ tOK b c) → Q (-1) σ)
    (h1 : ∀ j w v, a = nI j → b = nI w → c = nI v → j < A 24 → okT w v → Q (nI (A (4 * j + w))) (st1 σ (12 + 2 + w) j (nI v))) : wp_X5_alter a b c σ Q := by
  have w6 := hR.1.1
  refine x_takes hR (fun h => b00 (h0 h)) (fun h => b10 ?_)
  obtain ⟨j, hj, rfl⟩ := hc_of w6 h.1
  obtain ⟨w, v, rfl, rfl, hv⟩ := tOK_of h.2
  have hw : w < 4 := by unfold okT at hv; omega
  refine ⟨pk_in w 4 hw, pk_in j 6 (by omega), ?_⟩
  rintro _ rfl
  refine ⟨pk_in w 4 hw, pk_in j 6 (by omega), ?_⟩
  rintro _ rfl
  rw [nI_clamp (show w < 2 ^ 31 by omega), nI_clamp (show j < 2 ^ 31 by omega), Nat.one_mul, hR.2.2.1 j w hj hw]
  exact h1 j w v rfl rfl rfl hj hv
theorem m_canBe {b c : Int32} {σ : Mem} {Q : Int32 → Mem → Prop} (h1 : ¬ tOK b c → Q 0 σ) (h2 : tOK b c → Q 1 σ) : wp_X6_canBe b c σ Q := by
  refine ⟨fun e => ?_, fun e => ?_, fun e => ?_, fun e => ?_, fun e0 e1 e2 e3 => h1 (fun q => ?_)⟩
  · subst e
    refine m_wi 0 3 rfl rfl (fun h => ⟨Or.inl rfl, h1 (fun q => ?_)⟩) (fun h => ⟨Or.inr rfl, h2 (Or.inl ⟨rfl, h⟩)⟩)
    rcases q with ⟨_, q⟩ | ⟨e, _⟩ | ⟨e, _⟩ | ⟨e, _⟩
    · exact h q
    all_goals exact absurd e (by decide)
  · subst e
    refine m_wi 0 20 rfl rfl (fun h => ⟨Or.inl rfl, h1 (fun q => ?_)⟩) (fun h => ⟨Or.inr rfl, h2 (Or.inr (Or.inl ⟨rfl, h⟩))⟩)
    rcases q with ⟨e, _⟩ | ⟨_, q⟩ | ⟨e, _⟩ | ⟨e, _⟩
    · exact absurd e (by decide)
    · exact h q
    all_goals exact absurd e (by decide)
  · subst e
    refine m_wi 1 20 rfl rfl (fun h => ⟨Or.inl rfl, h1 (fun q => ?_)⟩) (fun h => ⟨Or.inr rfl, h2 (Or.inr (Or.inr (Or.inl ⟨rfl, h⟩)))⟩)
    rcases q with ⟨e, _⟩ | ⟨e, _⟩ | ⟨_, q⟩ | ⟨e, _⟩
    · exact absurd e (by decide)
    · exact absurd e (by decide)
    · exact h q
    · exact absurd e (by decide)
  · subst e
    refine m_wi 1 30 rfl rfl (fun h => ⟨Or.inl rfl, h1 (fun q => ?_)⟩) (fun h => ⟨Or.inr rfl, h2 (Or.inr (Or.inr (Or.inr ⟨rfl, h⟩)))⟩)
    rcases q with ⟨e, _⟩ | ⟨e, _⟩ | ⟨e, _⟩ | ⟨_, q⟩
    · exact absurd e (by decide)
    · exact absurd e (by decide)
    · exact absurd e (by decide)
    · exact h q
  · rcases q with ⟨e, _⟩ | ⟨e, _⟩ | ⟨e, _⟩ | ⟨e, _⟩
    · exact e0 e
    · exact e1 e
    · exact e2 e
    · exact e3 e
theorem m_bec {k : Nat} {v : Int32} {σ : Mem} {Q : Int32 → Mem → Prop} (hk : k < 147) (hQ : Q (σ.1 65 k) (st1 σ 65 k v)) : wp_X6_becomes (nI k) v σ Q := by
  refine ⟨pk_in k 147 hk, ?_⟩
  rintro _ rfl
  refine ⟨pk_in k 147 hk, ?_⟩
  rintro _ rfl
  rw [nI_clamp (show k < 2 ^ 31 by omega)]
  exact hQ
theorem m_alter {a b c : Int32} {σ : Mem} {A : Nat → Nat} {Q : Int32 → Mem → Prop} (hR : Rl (σ.1 65) A) (h0 : ¬ (hc A a ∧ tOK b c) → Q (-1) σ)
    (h1 : ∀ j w v, a = nI j → b = nI w → c = nI v → j < A 24 → okT w v → Q (nI (A (4 * j + w))) (st1 σ 65 (4 * j + w) (nI v))) : wp_X6_alter a b c σ Q := by
  have w6 := hR.1.1
  refine m_heir hR.2.1 (fun h => b01 (h0 (fun q => h q.1))) (fun ha => b11 ?_)
  refine m_canBe (fun h => b01 (h0 (fun q => h q.2))) (fun hb => b11 ?_)
  obtain ⟨j, hj, rfl⟩ := hc_of w6 ha
  obtain ⟨w, v, rfl, rfl, hv⟩ := tOK_of hb
  have hw : w < 4 := by unfold okT at hv; omega
  rw [show (4 : Int32) = nI 4 from rfl, pk_mul, nI_add]
  refine m_bec (by omega) ?_
  rw [hR.2.2.1 j w hj hw]
  exact h1 j w v rfl rfl rfl hj hv
/-! lumbago, works -/
theorem x_lumb {a : Int32} {σ : Mem} {A : Nat → Nat} {Q : Int32 → Mem → Prop} (hR : RX σ 12 A) (h0 : ¬ wc 0 9 a → Q (-1) σ) (h1 : ∀ v, v ≤ 9 → a = nI v → Q (nI (A 31)) (st1 σ 12 3 (nI v))) : wp_X5_lumbago a σ Q := by
  refine x_wi (fun h => b00 (h0 h)) (fun h => b10 ?_)
  obtain ⟨v, hv, rfl⟩ := wc_of (n := 9) rfl (by omega) h
  rintro _ rfl _ rfl
  have e := hR.2.2.2.2 31 (by omega) (by omega)
  simp only [Nat.reduceSub] at e
  rw [e]
  exact h1 v hv rfl
theorem m_lumb {a : Int32} {σ : Mem} {A : Nat → Nat} {Q : Int32 → Mem → Prop} (hR : Rl (σ.1 65) A) (h0 : ¬ wc 0 9 a → Q (-1) σ) (h1 : ∀ v, v ≤ 9 → a = nI v → Q (nI (A 31)) (st1 σ 65 31 (nI v))) : wp_X6_lumbago a σ Q := by
  refine m_wi 0 9 rfl rfl (fun h => b01 (h0 h)) (fun h => b11 ?_)
  obtain ⟨v, hv, rfl⟩ := wc_of (n := 9) rfl (by omega) h
  refine m_bec (k := 31) (by omega) ?_
  rw [hR.2.2.2.2 31 (by omega) (by omega)]
  exact h1 v hv rfl
theorem x_wrk {a : Int32} {σ : Mem} {A : Nat → Nat} {Q : Int32 → Mem → Prop} (hR : RX σ 12 A) (h0 : ¬ wc 0 999 a → Q (-1) σ) (h1 : ∀ v, v ≤ 999 → a = nI v → Q (nI (A 32)) (st1 σ 12 4 (nI v))) : wp_X5_works a σ Q := by
  refine x_wi (fun h => b00 (h0 h)) (fun h => b10 ?_)
  obtain ⟨v, hv, rfl⟩ := wc_of (n := 999) rfl (by omega) h
  rintro _ rfl _ rfl
  have e := hR.2.2.2.2 32 (by omega) (by omega)
  simp only [Nat.reduceSub] at e
  rw [e]
  exact h1 v hv rfl
theorem m_wrk {a : Int32} {σ : Mem} {A : Nat → Nat} {Q : Int32 → Mem → Prop} (hR : Rl (σ.1 65) A) (h0 : ¬ wc 0 999 a → Q (-1) σ) (h1 : ∀ v, v ≤ 999 → a = nI v → Q (nI (A 32)) (st1 σ 65 32 (nI v))) : wp_X6_works a σ Q := by
  refine m_wi 0 999 rfl rfl (fun h => b01 (h0 h)) (fun h => b11 ?_)
  obtain ⟨v, hv, rfl⟩ := wc_of (n := 999) rfl (by omega) h
  refine m_bec (k := 32) (by omega) ?_
  rw [hR.2.2.2.2 32 (by omega) (by omega)]
  exact h1 v hv rfl
theorem WF.set32 {A : Nat → Nat} {v : Nat} (W : WF A) (hv : v ≤ 999) : WF (setA A 32 v) := by
  obtain ⟨w1, w2, w3, w4, w5, w6, w7⟩ := W
  have hn : setA A 32 v 24 = A 24 := setA_ne (by omega)
  refine ⟨by rw [hn]; exact w1, ?_, ?_, ?_, ?_, by rw [setA_ne (by omega)]; exact w6, by rw [setA_eq]; exact hv⟩
  · intro g hg
    rw [hn] at hg
    rw [setA_ne (by omega), setA_ne (by omega), setA_ne (by omega), setA_ne (by omega)]
    exact w2 g hg
  · intro i hi
    rw [hn] at hi ⊢
    rw [setA_ne (by omega)]
    exact w3 i hi
  · intro i j hi hj q
    rw [hn] at hi hj
    rw [setA_ne (by omega), setA_ne (by omega)] at q
    exact w4 i j hi hj q
  · intro g hg
    rw [hn] at hg ⊢
    obtain ⟨i, hi, e⟩ := w5 g hg
    exact ⟨i, hi, by rw [setA_ne (by omega)]; exact e⟩
theorem RX.set32 {σ : Mem} {d v : Nat} {A : Nat → Nat} (hR : RX σ d A) (hv : v ≤ 999) : RX (st1 σ d 4 (nI v)) d (setA A 32 v) := by
  have W := hR.1.set32 hv
  have w1 := hR.1.1
  have hn : setA A 32 v 24 = A 24 := setA_ne (by omega)
  obtain ⟨_, r1, r2, r3, r4⟩ := hR
  refine ⟨W, ?_, ?_, ?_, ?_⟩
  · rw [st1_get, if_neg (by omega), hn]; exact r1
  · intro g x hg hx
    rw [hn] at hg
    rw [st1_get, if_neg (by omega), setA_ne (by omega)]
    exact r2 g x hg hx
  · intro i hi
    rw [hn] at hi
    rw [st1_get, if_neg (by omega), setA_ne (by omega)]
    exact r3 i hi
  · intro k k1 k2
    by_cases e : k = 32
    · subst e
      rw [setA_eq]
      exact mm3
    · rw [st1_get, if_neg (by omega), setA_ne (by omega)]
      exact r4 k k1 k2
theorem Rl.set32 {σ : Mem} {b v : Nat} {A : Nat → Nat} (hR : Rl (σ.1 b) A) (hv : v ≤ 999) : Rl ((st1 σ b 32 (nI v)).1 b) (setA A 32 v) := by
  have W := hR.1.set32 hv
  have w1 := hR.1.1
  have hn : setA A 32 v 24 = A 24 := setA_ne (by omega)
  obtain ⟨_, r1, r2, r3, r4⟩ := hR
  refine ⟨W, ?_, ?_, ?_, ?_⟩
  · rw [st1_get, if_neg (by omega), hn]; exact r1
  · intro g x hg hx
    rw [hn] at hg
    rw [st1_get, if_neg (by omega), setA_ne (by omega)]
    exact r2 g x hg hx
  · intro i hi
    rw [hn] at hi
    rw [st1_get, if_neg (by omega), setA_ne (by omega)]
    exact r3 i hi
  · intro k k1 k2
    by_cases e : k = 32
    · subst e
      rw [setA_eq]
      exact mm3
    · rw [st1_get, if_neg (by omega), setA_ne (by omega)]
      exact r4 k k1 k2
/-! change -/
theorem x_change {a b : Int32} {σ : Mem} {A : Nat → Nat} {Q : Int32 → Mem → Prop} (hR : RX σ 12 A) (h0 : ¬ (hc A a ∧ hc A b ∧ ¬ a = b) → Q (-1) σ)
    (h1 : ∀ i k, i < A 24 → k < A 24 → i ≠ k → a = nI i → b = nI k → ∀ τ : Mem, RX τ 12 (swpA A i k) → (∀ x y, x ≠ 18 → τ.1 x y = σ.1 x y) → τ.2 = σ.2 → Q (nI (A (25 + i))) τ) : wp_X5_change a b σ Q := by
  have w6 := hR.1.1
  refine x_isPlace hR.2.1 (fun h => b01 (h0 (fun q => h q.1))) (fun ha => b11 ?_)
  refine x_isPlace hR.2.1 (fun h => b01 (h0 (fun q => h q.2.1))) (fun hb => b11 ?_)
  refine ⟨fun hab => ?_, fun hab => h0 (fun q => q.2.2 hab)⟩
  obtain ⟨i, hi, rfl⟩ := hc_of w6 ha
  obtain ⟨k, hk, rfl⟩ := hc_of w6 hb
  refine ⟨pk_in i 6 (by omega), ?_⟩
  rintro _ rfl
  have hik : i ≠ k := fun e => hab (by rw [e])
  have e := hR.2.2.2.1 i hi
  rw [nI_clamp (show i < 2 ^ 31 by omega), e]
  exact x_swap hR hi hk hik (fun τ t1 t2 t3 => h1 i k hi hk hik rfl rfl τ t1 (fun x y h => t2 x y (by omega)) t3)
theorem m_change {a b : Int32} {σ : Mem} {A : Nat → Nat} {Q : Int32 → Mem → Prop} (hR : Rl (σ.1 65) A) (h0 : ¬ (hc A a ∧ hc A b ∧ ¬ a = b) → Q (-1) σ)
    (h1 : ∀ i k, i < A 24 → k < A 24 → i ≠ k → a = nI i → b = nI k → ∀ τ : Mem, Rl (τ.1 65) (swpA A i k) → (∀ x y, x ≠ 65 → τ.1 x y = σ.1 x y) → (∀ y, 31 ≤ y → τ.1 65 y = σ.1 65 y) → Q (nI (A (25 + i))) τ) : wp_X6_change a b σ Q := by
  have w6 := hR.1.1
  refine m_heir hR.2.1 (fun h => b01 (h0 (fun q => h q.1))) (fun ha => b11 ?_)
  refine m_heir hR.2.1 (fun h => b01 (h0 (fun q => h q.2.1))) (fun hb => b11 ?_)
  refine ⟨fun hab => ?_, fun hab => h0 (fun q => q.2.2 hab)⟩
  obtain ⟨i, hi, rfl⟩ := hc_of w6 ha
  obtain ⟨k, hk, rfl⟩ := hc_of w6 hb
  have hik : i ≠ k := fun e => hab (by rw [e])
  rw [show (25 : Int32) = nI 25 from rfl, nI_add, nI_add, nI_clamp (show 25 + i < 2 ^ 31 by omega), nI_clamp (show 25 + k < 2 ^ 31 by omega)]
  refine ⟨pk_in (25 + i) 147 (by omega), ?_⟩
  rintro _ rfl
  refine ⟨pk_in (25 + k) 147 (by omega), pk_in (25 + i) 147 (by omega), ?_⟩
  rintro _ rfl
  refine ⟨pk_in (25 + k) 147 (by omega), ?_⟩
  rintro _ rfl
  rw [hR.2.2.2.1 i hi, hR.2.2.2.1 k hk]
  have hnn : swpA A i k 24 = A 24 := swp_o (by omega) (by omega) (by omega)
  refine h1 i k hi hk hik rfl rfl _ ⟨hR.1.swp hi hk hik, ?_, ?_, ?_, ?_⟩ (fun x y h => ?_) (fun y h => ?_)
  · rw [mm2 (by omega), mm2 (by omega), hnn]
    exact hR.2.1
  · intro h x hh hx
    rw [hnn] at hh
    rw [mm2 (by omega), mm2 (by omega), swp_o (by omega) (by omega) (by omega)]
    exact hR.2.2.1 h x hh hx
  · intro j hj
    rw [hnn] at hj
    rw [swp_l hik, st1_get, st1_get]
    by_cases h1 : j = k
    · subst h1
      rw [if_pos ⟨rfl, rfl⟩, if_neg (by omega), if_pos rfl]
    · rw [if_neg (by omega)]
      by_cases h2 : j = i
      · subst h2
        rw [if_pos ⟨rfl, rfl⟩, if_pos rfl]
      · rw [if_neg (by omega), if_neg h2, if_neg h1]
        exact hR.2.2.2.1 j hj
  · intro z z1 z2
    rw [mm2 (by omega), mm2 (by omega), swp_o (by omega) (by omega) (by omega)]
    exact hR.2.2.2.2 z z1 z2
  · rw [mm1 h, mm1 h]
  · rw [mm2 (by omega), mm2 (by omega)]
/-! an heir more -/
def addA (A : Nat → Nat) (q s b t : Nat) : Nat → Nat := fun k => if k = 24 then A 24 + 1 else if k = 4 * A 24 then q else if k = 4 * A 24 + 1 then s else if k = 4 * A 24 + 2 then b else if k = 4 * A 24 + 3 then t else if k = 25 + A 24 then A 24 else A k
theorem add_n {A : Nat → Nat} {q s b t : Nat} : addA A q s b t 24 = A 24 + 1 := by unfold addA; rw [if_pos rfl]
theorem add_l {A : Nat → Nat} {q s b t i : Nat} (h : A 24 < 6) : addA A q s b t (25 + i) = if i = A 24 then A 24 else A (25 + i) := by
  unfold addA
  rw [if_neg (by omega), if_neg (by omega), if_neg (by omega), if_neg (by omega), if_neg (by omega)]
  by_cases e : i = A 24
  · rw [if_pos (by omega), if_pos e]
  · rw [if_neg (by omega), if_neg e]
theorem add_t {A : Nat → Nat} {q s b t h w : Nat} (h6 : A 24 < 6) (hw : w < 4) (hh : h < A 24) : addA A q s b t (4 * h + w) = A (4 * h + w) := by
  unfold addA
  rw [if_neg (by omega), if_neg (by omega), if_neg (by omega), if_neg (by omega), if_neg (by omega), if_neg (by omega)]
theorem add_o {A : Nat → Nat} {q s b t k : Nat} (h6 : A 24 < 6) (hk : 31 ≤ k) : addA A q s b t k = A k := by
  unfold addA
  rw [if_neg (by omega), if_neg (by omega), if_neg (by omega), if_neg (by omega), if_neg (by omega), if_neg (by omega)]
theorem add_new {A : Nat → Nat} {q s b t : Nat} (h6 : A 24 < 6) : addA A q s b t (4 * A 24) = q ∧ addA A q s b t (4 * A 24 + 1) = s ∧ addA A q s b t (4 * A 24 + 2) = b ∧ addA A q s b t (4 * A 24 + 3) = t := by
  unfold addA
  refine ⟨?_, ?_, ?_, ?_⟩
  · rw [if_neg (by omega), if_pos rfl]
  · rw [if_neg (by omega), if_neg (by omega), if_pos rfl]
  · rw [if_neg (by omega), if_neg (by omega), if_neg (by omega), if_pos rfl]
  · rw [if_neg (by omega), if_neg (by omega), if_neg (by omega), if_neg (by omega), if_pos rfl]
theorem WF.add {A : Nat → Nat} {q s b t : Nat} (W : WF A) (h6 : A 24 < 6) (hq : q ≤ 3) (hs : s ≤ 20) (hb : 1 ≤ b ∧ b ≤ 20) (ht : 1 ≤ t ∧ t ≤ 30) : WF (addA A q s b t) := by
  obtain ⟨w1, w2, w3, w4, w5, w6, w7⟩ := W
  have hn := add_n (A := A) (q := q) (s := s) (b := b) (t := t)
  obtain ⟨n0, n1, n2, n3⟩ := add_new (A := A) (q := q) (s := s) (b := b) (t := t) h6
  refine ⟨by rw [hn]; omega, ?_, ?_, ?_, ?_, by rw [add_o h6 (by omega)]; exact w6, by rw [add_o h6 (by omega)]; exact w7⟩
  · intro g hg
    rw [hn] at hg
    by_cases e : g = A 24
    · subst e
      rw [n0, n1, n2, n3]
      omega
    · have := add_t (A := A) (q := q) (s := s) (b := b) (t := t) (h := g) (w := 0) h6 (by omega) (by omega)
      rw [Nat.add_zero] at this
      rw [this, add_t h6 (by omega) (by omega), add_t h6 (by omega) (by omega), add_t h6 (by omega) (by omega)]
      exact w2 g (by omega)
  · intro i hi
    rw [hn] at hi ⊢
    rw [add_l h6]
    by_cases e : i = A 24
    · rw [if_pos e]; omega
    · rw [if_neg e]
      have := w3 i (by omega)
      omega
  · intro i j hi hj z
    rw [hn] at hi hj
    rw [add_l h6, add_l h6] at z
    by_cases e1 : i = A 24
    · by_cases e2 : j = A 24
      · omega
      · rw [if_pos e1, if_neg e2] at z
        have := w3 j (by omega)
        omega
    · by_cases e2 : j = A 24
      · rw [if_neg e1, if_pos e2] at z
        have := w3 i (by omega)
        omega
      · rw [if_neg e1, if_neg e2] at z
        exact w4 i j (by omega) (by omega) z
  · intro g hg
    rw [hn] at hg ⊢
    by_cases e : g = A 24
    · exact ⟨A 24, by omega, by rw [add_l h6, if_pos rfl, e]⟩
    · obtain ⟨i, hi, ei⟩ := w5 g (by omega)
      exact ⟨i, by omega, by rw [add_l h6, if_neg (by omega)]; exact ei⟩
theorem x_add {d q s b t : Nat} {σ : Mem} {A : Nat → Nat} {Q : Int32 → Mem → Prop} (hR : RX σ d A) (hq : q ≤ 3) (hs : s ≤ 20) (hb : 1 ≤ b ∧ b ≤ 20) (ht : 1 ≤ t ∧ t ≤ 30) (h0 : 6 ≤ A 24 → Q 0 σ)
    (h1 : A 24 < 6 → ∀ τ : Mem, RX τ d (addA A q s b t) → (∀ x y, (x < d ∨ d + 7 ≤ x) → τ.1 x y = σ.1 x y) → (∀ y, y ≠ 2 → τ.1 d y = σ.1 d y) → τ.2 = σ.2 → Q 1 τ) : wp_X0_add d (nI q) (nI s) (nI b) (nI t) σ Q := by
  have w6 := hR.1.1
  unfold wp_X0_add
  simp only [tc0, tc1, tc2, tc3, Nat.one_mul]
  rw [hR.2.1]
  refine pk_lt (A 24) 6 (fun h6 => ?_) (fun h6 => h0 h6)
  have hc2 := nI_clamp (n := A 24) (by omega)
  refine ⟨pk_in (A 24) 6 h6, ?_⟩
  rw [hc2]
  rintro _ rfl
  have e2 : ∀ (τ : Mem) (k j : Nat) (v : Int32), k ≠ d → τ.1 d 2 = nI (A 24) → (st1 τ k j v).1 d 2 = nI (A 24) := fun τ k j v hk ht => by rw [mm1 (Ne.symm hk)]; exact ht
  have c1 := e2 σ (d + 2 + 0) (A 24) (nI q) (by omega) hR.2.1
  rw [c1, hc2]
  refine ⟨pk_in (A 24) 6 h6, ?_⟩
  rintro _ rfl
  have c2 := e2 _ (d + 2 + 1) (A 24) (nI s) (by omega) c1
  rw [c2, hc2]
  refine ⟨pk_in (A 24) 6 h6, ?_⟩
  rintro _ rfl
  have c3 := e2 _ (d + 2 + 2) (A 24) (nI b) (by omega) c2
  rw [c3, hc2]
  refine ⟨pk_in (A 24) 6 h6, ?_⟩
  rintro _ rfl
  have c4 := e2 _ (d + 2 + 3) (A 24) (nI t) (by omega) c3
  rw [c4, hc2]
  refine ⟨pk_in (A 24) 6 h6, ?_⟩
  rintro _ rfl
  have c5 := e2 _ (d + 6) (A 24) (nI (A 24)) (by omega) c4
  rw [c5, nI_1]
  rintro _ rfl
  obtain ⟨n0, n1, n2, n3⟩ := add_new (A := A) (q := q) (s := s) (b := b) (t := t) h6
  refine h1 h6 _ ⟨hR.1.add h6 hq hs hb ht, ?_, ?_, ?_, ?_⟩ (fun x y h => ?_) (fun y h => ?_) rfl
  · rw [mm3, add_n]
  · intro h w hh hw
    rw [add_n] at hh
    rw [mm1 (by omega), mm1 (by omega)]
    by_cases e : h = A 24
    · subst e
      rcases (show w = 0 ∨ w = 1 ∨ w = 2 ∨ w = 3 by omega) with rfl | rfl | rfl | rfl
      · rw [mm1 (by omega), mm1 (by omega), mm1 (by omega), mm3, Nat.add_zero, n0]
      · rw [mm1 (by omega), mm1 (by omega), mm3, n1]
      · rw [mm1 (by omega), mm3, n2]
      · rw [mm3, n3]
    · rw [mm2 (by omega), mm2 (by omega), mm2 (by omega), mm2 (by omega), add_t h6 hw (by omega)]
      exact hR.2.2.1 h w (by omega) hw
  · intro i hi
    rw [add_n] at hi
    rw [mm1 (by omega), add_l h6]
    by_cases e : i = A 24
    · subst e
      rw [mm3, if_pos rfl]
    · rw [mm2 (by omega), mm1 (by omega), mm1 (by omega), mm1 (by omega), mm1 (by omega), if_neg e]
      exact hR.2.2.2.1 i (by omega)
  · intro k k1 k2
    rw [mm2 (by omega), mm1 (by omega), mm1 (by omega), mm1 (by omega), mm1 (by omega), mm1 (by omega), add_o h6 k1]
    exact hR.2.2.2.2 k k1 k2
  · rw [mm1 (by omega), mm1 (by omega), mm1 (by omega), mm1 (by omega), mm1 (by omega), mm1 (by omega)]
  · rw [mm2 h, mm1 (by omega), mm1 (by omega), mm1 (by omega), mm1 (by omega), mm1 (by omega)]
def bearOK (a b c : Int32) : Prop := tOK 1 a ∧ tOK 2 b ∧ tOK 3 c
theorem bear_of {a b c : Int32} (h : bearOK a b c) : ∃ s u t, a = nI s ∧ b = nI u ∧ c = nI t ∧ s ≤ 20 ∧ (1 ≤ u ∧ u ≤ 20) ∧ (1 ≤ t ∧ t ≤ 30) := by
  obtain ⟨w1, s, e1, rfl, o1⟩ := tOK_of h.1
  obtain ⟨w2, u, e2, rfl, o2⟩ := tOK_of h.2.1
  obtain ⟨w3, t, e3, rfl, o3⟩ := tOK_of h.2.2
  have b1 : w1 < 4 := by unfold okT at o1; omega
  have b2 : w2 < 4 := by unfold okT at o2; omega
  have b3 : w3 < 4 := by unfold okT at o3; omega
  have f1 : 1 = w1 := (nI_eq (a := 1) (by omega) (by omega)).mp e1
  have f2 : 2 = w2 := (nI_eq (a := 2) (by omega) (by omega)).mp e2
  have f3 : 3 = w3 := (nI_eq (a := 3) (by omega) (by omega)).mp e3
  refine ⟨s, u, t, rfl, rfl, rfl, ?_, ?_, ?_⟩
  · unfold okT at o1; omega
  · unfold okT at o2; omega
  · unfold okT at o3; omega
theorem x_bear {a b c : Int32} {σ : Mem} {A : Nat → Nat} {Q : Int32 → Mem → Prop} (hR : RX σ 12 A) (h0 : ¬ bearOK a b c → Q (-1) σ) (h1 : bearOK a b c → 6 ≤ A 24 → Q (-3) σ)
    (h2 : ∀ s u t, a = nI s → b = nI u → c = nI t → s ≤ 20 → (1 ≤ u ∧ u ≤ 20) → (1 ≤ t ∧ t ≤ 30) → A 24 < 6 → ∀ τ : Mem, RX τ 12 (addA A 0 s u t) → (∀ x y, (x < 12 ∨ 19 ≤ x) → τ.1 x y = σ.1 x y) → τ.2 = σ.2 → Q (nI (A 24 + 1)) τ) : wp_X5_bear a b c σ Q := by
  refine x_isTrait ⟨by decide, by decide⟩ (fun h => b01 (h0 (fun q => h q.1))) (fun g1 => b11 ?_)
  refine x_isTrait ⟨by decide, by decide⟩ (fun h => b01 (h0 (fun q => h q.2.1))) (fun g2 => b11 ?_)
  refine x_isTrait ⟨by decide, by decide⟩ (fun h => b00 (h0 (fun q => h q.2.2))) (fun g3 => b10 ?_)
  obtain ⟨s, u, t, rfl, rfl, rfl, o1, o2, o3⟩ := bear_of ⟨g1, g2, g3⟩
  rw [show (0 : Int32) = nI 0 from rfl]
  refine x_add hR (by omega) o1 o2 o3 (fun h6 => b01 (h1 ⟨g1, g2, g3⟩ h6)) (fun h6 τ t1 t2 _ t3 => b11 ?_)
  rw [t1.2.1, add_n]
  exact h2 s u t rfl rfl rfl o1 o2 o3 h6 τ t1 t2 t3
theorem m_bear {a b c : Int32} {σ : Mem} {A : Nat → Nat} {Q : Int32 → Mem → Prop} (hR : Rl (σ.1 65) A) (h0 : ¬ bearOK a b c → Q (-1) σ) (h1 : bearOK a b c → 6 ≤ A 24 → Q (-3) σ)
    (h2 : ∀ s u t, a = nI s → b = nI u → c = nI t → s ≤ 20 → (1 ≤ u ∧ u ≤ 20) → (1 ≤ t ∧ t ≤ 30) → A 24 < 6 → ∀ τ : Mem, Rl (τ.1 65) (addA A 0 s u t) → (∀ x y, x ≠ 65 → τ.1 x y = σ.1 x y) → (∀ y, 31 ≤ y → τ.1 65 y = σ.1 65 y) → Q (nI (A 24 + 1)) τ) : wp_X6_bear a b c σ Q := by
  have w6 := hR.1.1
  refine m_canBe (fun h => b01 (h0 (fun q => h q.1))) (fun g1 => b11 ?_)
  refine m_canBe (fun h => b01 (h0 (fun q => h q.2.1))) (fun g2 => b11 ?_)
  refine m_canBe (fun h => b00 (h0 (fun q => h q.2.2))) (fun g3 => b10 ?_)
  obtain ⟨s, u, t, rfl, rfl, rfl, o1, o2, o3⟩ := bear_of ⟨g1, g2, g3⟩
  rw [tc24, hR.2.1]
  refine ⟨fun z => ?_, fun z => h1 ⟨g1, g2, g3⟩ (by
    have := (nI_eq (b := 6) (by omega) (by omega)).mp z
    omega)⟩
  have h6 : A 24 < 6 := by
    rcases Nat.lt_or_ge (A 24) 6 with h | h
    · exact h
    · exact absurd (by rw [show A 24 = 6 by omega]; rfl) z
  rintro _ rfl
  rw [show (4 : Int32) = nI 4 from rfl, pk_mul, show (0 : Int32) = nI 0 from rfl, show (1 : Int32) = nI 1 from rfl, show (2 : Int32) = nI 2 from rfl, show (3 : Int32) = nI 3 from rfl, show (25 : Int32) = nI 25 from rfl]
  simp only [nI_add, Nat.add_zero]
  rw [nI_clamp (show 4 * A 24 < 2 ^ 31 by omega), nI_clamp (show 4 * A 24 + 1 < 2 ^ 31 by omega), nI_clamp (show 4 * A 24 + 2 < 2 ^ 31 by omega), nI_clamp (show 4 * A 24 + 3 < 2 ^ 31 by omega)]
  refine ⟨pk_in (4 * A 24) 147 (by omega), ?_⟩
  rintro _ rfl
  refine ⟨pk_in (4 * A 24 + 1) 147 (by omega), ?_⟩
  rintro _ rfl
  refine ⟨pk_in (4 * A 24 + 2) 147 (by omega), ?_⟩
  rintro _ rfl
  refine ⟨pk_in (4 * A 24 + 3) 147 (by omega), ?_⟩
  rintro _ rfl
  have c4 : (st1 (st1 (st1 (st1 σ 65 (4 * A 24) (nI 0)) 65 (4 * A 24 + 1) (nI s)) 65 (4 * A 24 + 2) (nI u)) 65 (4 * A 24 + 3) (nI t)).1 65 24 = nI (A 24) := by
    rw [mm2 (by omega), mm2 (by omega), mm2 (by omega), mm2 (by omega)]
    exact hR.2.1
  rw [c4, nI_add, nI_clamp (show 25 + A 24 < 2 ^ 31 by omega)]
  refine ⟨pk_in (25 + A 24) 147 (by omega), ?_⟩
  rintro _ rfl
  rw [mm2 (by omega), c4, nI_add]
  rintro _ rfl
  rw [mm3]
  obtain ⟨n0, n1, n2, n3⟩ := add_new (A := A) (q := 0) (s := s) (b := u) (t := t) h6
  refine h2 s u t rfl rfl rfl o1 o2 o3 h6 _ ⟨hR.1.add h6 (by omega) o1 o2 o3, ?_, ?_, ?_, ?_⟩ (fun x y h => ?_) (fun y h => ?_)
  · rw [mm3, add_n]
  · intro h w hh hw
    rw [add_n] at hh
    rw [mm2 (by omega), mm2 (by omega)]
    by_cases e : h = A 24
    · subst e
      rcases (show w = 0 ∨ w = 1 ∨ w = 2 ∨ w = 3 by omega) with rfl | rfl | rfl | rfl
      · rw [mm2 (by omega), mm2 (by omega), mm2 (by omega), Nat.add_zero, mm3, n0]
      · rw [mm2 (by omega), mm2 (by omega), mm3, n1]
      · rw [mm2 (by omega), mm3, n2]
      · rw [mm3, n3]
    · rw [mm2 (by omega), mm2 (by omega), mm2 (by omega), mm2 (by omega), add_t h6 hw (by omega)]
      exact hR.2.2.1 h w (by omega) hw
  · intro i hi
    rw [add_n] at hi
    rw [mm2 (by omega), add_l h6]
    by_cases e : i = A 24
    · subst e
      rw [mm3, if_pos rfl]
    · rw [mm2 (by omega), mm2 (by omega), mm2 (by omega), mm2 (by omega), mm2 (by omega), if_neg e]
      exact hR.2.2.2.1 i (by omega)
  · intro k k1 k2
    rw [mm2 (by omega), mm2 (by omega), mm2 (by omega), mm2 (by omega), mm2 (by omega), mm2 (by omega), add_o h6 k1]
    exact hR.2.2.2.2 k k1 k2
  · rw [mm1 h, mm1 h, mm1 h, mm1 h, mm1 h, mm1 h]
  · rw [mm2 (by omega), mm2 (by omega), mm2 (by omega), mm2 (by omega), mm2 (by omega), mm2 (by omega)]
/-! reigns -/
def rgOK (A : Nat → Nat) (a : Int32) : Prop := nI (A 33) + a ≤ 999
theorem x_reigns {a : Int32} {σ : Mem} {A : Nat → Nat} {Q : Int32 → Mem → Prop} (hR : RX σ 12 A) (h0 : ¬ wc 0 30 a → Q (-1) σ) (h1 : wc 0 30 a → A 24 < 2 → Q (-2) σ) (h2 : wc 0 30 a → 2 ≤ A 24 → ¬ rgOK A a → Q (-3) σ)
    (h3 : ∀ n, n ≤ 30 → a = nI n → 2 ≤ A 24 → rgOK A a → ∀ τ : Mem, RX τ 12 (itA n A) → (∀ x y, (x < 12 ∨ 19 ≤ x) → τ.1 x y = σ.1 x y) → τ.2 = σ.2 → Q (nI (itA n A 32)) τ) : wp_X5_reigns a σ Q := by
  have e := hR.2.2.2.2 33 (by omega) (by omega)
  simp only [Nat.reduceSub] at e
  refine x_wi (fun h => ?_) (fun h => ?_)
  · exact x_ref hR (fun _ => h0 h) (fun q => absurd rfl q) (fun q => absurd rfl q)
  · refine x_ref hR (fun q => absurd q (by decide)) (fun _ q => h1 h q) (fun _ g2 => ?_)
    rw [e]
    refine ⟨fun z => ?_, fun z => h2 h g2 z⟩
    obtain ⟨n, hn, rfl⟩ := wc_of (n := 30) rfl (by omega) h
    exact x_works hR g2 (by omega) (fun τ t1 t2 t3 => h3 n hn rfl g2 z τ t1 t2 t3)
theorem m_reigns {a : Int32} {σ : Mem} {A : Nat → Nat} {Q : Int32 → Mem → Prop} (hR : Rl (σ.1 65) A) (h0 : ¬ wc 0 30 a → Q (-1) σ) (h1 : wc 0 30 a → A 24 < 2 → Q (-2) σ) (h2 : wc 0 30 a → 2 ≤ A 24 → ¬ rgOK A a → Q (-3) σ)
    (h3 : ∀ n, n ≤ 30 → a = nI n → 2 ≤ A 24 → rgOK A a → ∀ τ : Mem, Rl (τ.1 65) (itA n A) → (∀ y, 36 ≤ y → τ.1 65 y = σ.1 65 y) → (∀ x y, x ≠ 65 → x ≠ 66 → ¬ (x = 64 ∧ 17 ≤ y ∧ y ≤ 19) → τ.1 x y = σ.1 x y) → Q (nI (itA n A 32)) τ) : wp_X6_reigns a σ Q := by
  have e := hR.2.2.2.2 33 (by omega) (by omega)
  refine m_wi 0 30 rfl rfl (fun h => b00 (h0 h)) (fun h => b10 ?_)
  refine m_twoR hR (fun q => b00 (h1 h q)) (fun g2 => b10 ?_)
  rw [tc33, e]
  refine ⟨fun z => ?_, fun z => h2 h g2 z⟩
  obtain ⟨n, hn, rfl⟩ := wc_of (n := 30) rfl (by omega) h
  refine m_starts (fun τ t3 t2 _ => ?_)
  have t1 : Rl (τ.1 66) A := hR.fr (fun k hk => t3 k (by omega))
  refine m_reignsGo t1 g2 (by omega) (fun υ u1 u2 => ?_)
  refine m_settles (fun ψ p1 p2 p3 p4 => ?_)
  have hRl : Rl (ψ.1 65) (itA n A) := u1.fr (fun k hk => p1 k (by omega))
  rw [tc32, hRl.2.2.2.2 32 (by omega) (by omega)]
  refine h3 n hn rfl g2 z ψ hRl (fun y hy => ?_) (fun x y q1 q2 q3 => ?_)
  · by_cases hy2 : y < 49
    · rw [p1 y hy2, u2.2.1 y hy, t3 y hy2]
    · rw [p2 y (by omega), u2.1 65 y (by omega) (by omega), t2 65 y (by omega)]
  · rw [p3 x y q1, u2.1 x y q2 q3]
    exact t2 x y q2
