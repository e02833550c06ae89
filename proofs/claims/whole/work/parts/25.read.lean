/-! read -/
theorem lt64 (x y : Int32) : x.toInt64 < y.toInt64 ↔ x < y := by
  rw [← Int64.not_le, le64, Int32.not_le]
theorem nI_64 {n : Nat} (h : n < 2 ^ 31) : (nI n).toInt64 = Int64.ofNat n := by
  apply Int64.toInt_inj.mp
  rw [Int32.toInt_toInt64, nI_toInt h, Int64.toInt_ofNat_of_lt (by omega)]
noncomputable def flt (zk : Nat) (lk b v : Int32) : Int32 := cs (zk = 0) 1 (cs (b = lk) (cs (wc 0 (nI (zk - 1) - 1) v) 0 2) 3)
theorem x_flt {k : Nat} {b v : Int32} {σ : Mem} {z : Nat → Nat} {ln : Nat → Int32} {ce : Nat → Nat → Int32} {Q : Int32 → Mem → Prop} (hH : HX σ z ln ce) (hk : k < 4) (hQ : Q (flt (z k) (ln k) b v) σ) : wp_X2_faultAt (53 + 2 * k) b v σ Q := by
  obtain ⟨q1, q2, q3⟩ := hH k hk
  unfold wp_X2_faultAt
  unfold flt at hQ
  by_cases hz : z k = 0
  · rw [cs_t hz] at hQ
    rw [q2 hz]
    exact ⟨fun y => absurd y (by decide), fun _ => hQ⟩
  · rw [cs_f hz] at hQ
    obtain ⟨p1, p2, p3, p4⟩ := q3 hz
    rw [p2, p3]
    refine ⟨fun _ => ⟨fun e => ?_, fun e => ?_⟩, fun y => absurd (nI_pos' (by omega)) y⟩
    · rw [cs_t e] at hQ
      exact x_wi (fun h => b01 (by rw [cs_f h] at hQ; exact hQ)) (fun h => b11 (by rw [cs_t h] at hQ; exact hQ))
    · rw [cs_f e] at hQ
      exact hQ
noncomputable def flt2 (zk : Nat) (lk b v : Int32) : Int32 := cs (flt zk lk b v = 0) (flt zk lk b (v + 1)) (flt zk lk b v)
theorem x_flt2 {k : Nat} {b v : Int32} {σ : Mem} {z : Nat → Nat} {ln : Nat → Int32} {ce : Nat → Nat → Int32} {Q : Int32 → Mem → Prop} (hH : HX σ z ln ce) (hk : k < 4) (hQ : Q (flt2 (z k) (ln k) b v) σ) : wp_X2_faultOfPair (53 + 2 * k) b v σ Q := by
  refine x_flt hH hk ?_
  unfold flt2 at hQ
  exact ⟨fun e => x_flt hH hk (by rw [cs_t e] at hQ; exact hQ), fun e => by rw [cs_f e] at hQ; exact hQ⟩
theorem flt0 {zk : Nat} {lk b v : Int32} (hz : ¬ zk = 0 → zk ≤ 41) (h : flt zk lk b v = 0) : ∃ p, p < zk - 1 ∧ v = nI p ∧ ¬ zk = 0 ∧ b = lk := by
  unfold flt at h
  by_cases e : zk = 0
  · rw [cs_t e] at h
    exact absurd h (by decide)
  · rw [cs_f e] at h
    have := hz e
    by_cases e2 : b = lk
    · rw [cs_t e2] at h
      by_cases e3 : wc 0 (nI (zk - 1) - 1) v
      · obtain ⟨p, hp, rfl⟩ := (in_split v (zk - 1) (by omega)).elim id (fun q => absurd e3 q)
        exact ⟨p, hp, rfl, e, e2⟩
      · rw [cs_f e3] at h
        exact absurd h (by decide)
    · rw [cs_f e2] at h
      exact absurd h (by decide)
theorem flt2_0 {zk : Nat} {lk b v : Int32} (hz : ¬ zk = 0 → zk ≤ 41) (h : flt2 zk lk b v = 0) : ∃ p, p + 1 < zk - 1 ∧ v = nI p ∧ ¬ zk = 0 ∧ zk ≤ 41 := by
  unfold flt2 at h
  by_cases e : flt zk lk b v = 0
  · rw [cs_t e] at h
    obtain ⟨p, hp, rfl, e1, -⟩ := flt0 hz e
    obtain ⟨q, hq, e2, -⟩ := flt0 hz h
    have := hz e1
    rw [nI_1, nI_eq (by omega) (by omega)] at e2
    exact ⟨p, by omega, rfl, e1, this⟩
  · rw [cs_f e] at h
    exact absurd h e
def rdOK (A : Nat → Nat) (x y : Int32) : Prop := hc A x ∧ tOK 1 y ∧ 2 ≤ A 24 ∧ A 33 < 999
noncomputable def rdN (A : Nat → Nat) (x y : Int32) : Nat → Nat := crA (setA A (4 * x.toNatClampNeg + 1) y.toNatClampNeg) false
noncomputable def rdA (zk : Nat) (lk b f : Int32) (ck : Nat → Int32) : Nat → Nat → (Nat → Nat) → Int32 × Option (Int32 × (Nat → Nat))
  | 0, i, A => (nI i, some (0, A))
  | m + 1, i, A => cs (flt2 zk lk b (f + 2 * nI i) = 0)
      (cs (rdOK A (ck (f + 2 * nI i).toNatClampNeg) (ck (f + 2 * nI i + 1).toNatClampNeg))
        (rdA zk lk b f ck m (i + 1) (rdN A (ck (f + 2 * nI i).toNatClampNeg) (ck (f + 2 * nI i + 1).toNatClampNeg)))
        (-20 - nI i, none))
      (nI i, some (flt2 zk lk b (f + 2 * nI i), A))
theorem tOK1 {y : Int32} (h : tOK 1 y) : ∃ v, v ≤ 20 ∧ y = nI v := by
  rcases h with ⟨e, _⟩ | ⟨_, q⟩ | ⟨e, _⟩ | ⟨e, _⟩
  · exact absurd e (by decide)
  · exact wc_of (n := 20) rfl (by omega) q
  · exact absurd e (by decide)
  · exact absurd e (by decide)
theorem crA_33 {A : Nat → Nat} {s : Bool} (w : WF A) (h2 : 2 ≤ A 24) : crA A s 33 = A 33 + 1 := by
  have w6 := w.1
  have c24 : cntA A s 24 = A 24 := cntA_lo (by omega)
  have e : ∀ p, bhd (cntA A s) p 33 = A 33 + 1 := fun p => by
    rw [bhd_hi (by omega) (by omega)]; rfl
  by_cases h : fellA A s = true
  · have := (w.2.2.1 1 (by omega))
    simp only [Nat.reduceAdd] at this
    rw [crA_fell w h2 h, setA_ne (by omega), e]
  · rw [crA_clean (by simpa using h), bhd_hi (by rw [bhd_n (by omega)]; omega) (by omega), e]
theorem crA_hi {A : Nat → Nat} {s : Bool} {k : Nat} (w : WF A) (h2 : 2 ≤ A 24) (hk : 36 ≤ k) : crA A s k = A k := by
  have w6 := w.1
  have c24 : cntA A s 24 = A 24 := cntA_lo (by omega)
  have e : ∀ p, bhd (cntA A s) p k = A k := fun p => by
    rw [bhd_hi (by omega) (by omega)]
    unfold cntA
    rw [if_neg (by omega), if_neg (by omega), if_neg (by omega), if_neg (by omega)]
  by_cases h : fellA A s = true
  · have := (w.2.2.1 1 (by omega))
    simp only [Nat.reduceAdd] at this
    rw [crA_fell w h2 h, setA_ne (by omega), e]
  · rw [crA_clean (by simpa using h), bhd_hi (by rw [bhd_n (by omega)]; omega) (by omega), e]
theorem rdN_ok {A : Nat → Nat} {x y : Int32} (W : WF A) (h : rdOK A x y) : WF (rdN A x y) ∧ rdN A x y 24 = A 24 ∧ rdN A x y 33 = A 33 + 1 ∧ ∀ k, 36 ≤ k → rdN A x y k = A k := by
  obtain ⟨ha, hb, h2, -⟩ := h
  have w6 := W.1
  obtain ⟨j, hj, rfl⟩ := hc_of w6 ha
  obtain ⟨v, hv, rfl⟩ := tOK1 hb
  unfold rdN
  rw [nI_clamp (show j < 2 ^ 31 by omega), nI_clamp (show v < 2 ^ 31 by omega)]
  have W1 : WF (setA A (4 * j + 1) v) := W.set hj (Or.inr (Or.inl ⟨rfl, hv⟩))
  have e24 : setA A (4 * j + 1) v 24 = A 24 := setA_ne (by omega)
  refine ⟨W1.cr (by omega), ?_, ?_, fun k hk => ?_⟩
  · rw [crA_n W1 (by omega), e24]
  · rw [crA_33 W1 (by omega), setA_ne (by omega)]
  · rw [crA_hi W1 (by omega) hk, setA_ne (by omega)]
theorem rdA_ok {zk : Nat} {lk b f : Int32} {ck : Nat → Int32} : ∀ (m i : Nat) (A : Nat → Nat) (r t : Int32) (B : Nat → Nat), WF A → A 33 ≤ 999 → rdA zk lk b f ck m i A = (r, some (t, B)) → WF B ∧ B 33 ≤ 999 ∧ B 24 = A 24 ∧ ∀ k, 36 ≤ k → B k = A k := by
  intro m
  induction m with
  | zero =>
    intro i A r t B W h3 e
    unfold rdA at e
    simp only [Prod.mk.injEq, Option.some.injEq] at e
    obtain ⟨-, -, rfl⟩ := e
    exact ⟨W, h3, rfl, fun _ _ => rfl⟩
  | succ m ih =>
    intro i A r t B W h3 e
    unfold rdA at e
    by_cases e1 : flt2 zk lk b (f + 2 * nI i) = 0
    · rw [cs_t e1] at e
      by_cases e2 : rdOK A (ck (f + 2 * nI i).toNatClampNeg) (ck (f + 2 * nI i + 1).toNatClampNeg)
      · rw [cs_t e2] at e
        obtain ⟨n1, n2, n3, n4⟩ := rdN_ok W e2
        have h4 := e2.2.2.2
        obtain ⟨r1, r2, r3, r4⟩ := ih (i + 1) _ r t B n1 (by omega) e
        exact ⟨r1, r2, r3.trans n2, fun k hk => (r4 k hk).trans (n4 k hk)⟩
      · rw [cs_f e2] at e
        simp at e
    · rw [cs_f e1] at e
      simp only [Prod.mk.injEq, Option.some.injEq] at e
      obtain ⟨-, -, rfl⟩ := e
      exact ⟨W, h3, rfl, fun _ _ => rfl⟩
theorem x_trains {x y : Int32} {σ : Mem} {A : Nat → Nat} {Q : Int32 → Mem → Prop} (hR : RX σ 19 A) (h3 : A 33 ≤ 999) (h0 : ¬ rdOK A x y → Q 0 σ) (h1 : rdOK A x y → ∀ τ : Mem, RX τ 19 (rdN A x y) → (∀ a b, (a < 19 ∨ 19 + 7 ≤ a) → τ.1 a b = σ.1 a b) → τ.2 = σ.2 → Q 1 τ) : wp_X5_trains x y σ Q := by
  have w6 := hR.1.1
  have e33 := hR.2.2.2.2 33 (by omega) (by omega)
  simp only [Nat.reduceSub] at e33
  refine x_takes hR (fun h => b01 (h0 (fun q => h ⟨q.1, q.2.1⟩))) (fun h => b11 ?_)
  rw [hR.2.1, e33]
  refine pk_lt (A 24) 2 (fun z => h0 (fun q => by have := q.2.2.1; omega)) (fun g2 => ?_)
  refine pk_lt (A 33) 999 (fun z => ?_) (fun z => h0 (fun q => by have := q.2.2.2; omega))
  have hok : rdOK A x y := ⟨h.1, h.2, g2, z⟩
  have h1 := h1 hok
  unfold rdN at h1
  obtain ⟨j, hj, rfl⟩ := hc_of w6 h.1
  obtain ⟨v, hv, rfl⟩ := tOK1 h.2
  rw [nI_clamp (show j < 2 ^ 31 by omega), nI_clamp (show v < 2 ^ 31 by omega)] at h1
  refine ⟨pk_in j 6 (by omega), ?_⟩
  rintro _ rfl
  rw [nI_clamp (show j < 2 ^ 31 by omega), tc1, Nat.one_mul]
  have hR1 : RX (st1 σ (19 + 2 + 1) j (nI v)) 19 (setA A (4 * j + 1) v) := hR.setT hj (Or.inr (Or.inl ⟨rfl, hv⟩))
  refine x_crown0 hR1 (by rw [setA_ne (by omega)]; exact g2) (fun τ t1 _ _ _ _ _ t2 t3 => h1 τ t1 (fun a b q => ?_) t3)
  rw [t2 a b q, mm1 (by omega)]
theorem HX.fr {σ τ : Mem} {z : Nat → Nat} {ln : Nat → Int32} {ce : Nat → Nat → Int32} (h : HX σ z ln ce) (hk : ∀ a b, 53 ≤ a → a < 61 → τ.1 a b = σ.1 a b) : HX τ z ln ce := by
  intro k hk4
  obtain ⟨q1, q2, q3⟩ := h k hk4
  refine ⟨fun i hi => by rw [hk _ _ (by omega) (by omega)]; exact q1 i hi, fun y => by rw [hk _ _ (by omega) (by omega)]; exact q2 y, fun y => ?_⟩
  rw [hk _ _ (by omega) (by omega), hk _ _ (by omega) (by omega)]
  exact q3 y
theorem HM.fr {σ τ : Mem} {z : Nat → Nat} {ln : Nat → Int32} {ce : Nat → Nat → Int32} (h : HM σ z ln ce) (hk : ∀ a b, 74 ≤ a → a < 77 → τ.1 a b = σ.1 a b) : HM τ z ln ce := by
  intro k hk4
  obtain ⟨q1, q2, q3⟩ := h k hk4
  refine ⟨fun i hi => by rw [hk _ _ (by omega) (by omega)]; exact q1 i hi, fun y => by rw [hk _ _ (by omega) (by omega)]; exact q2 y, fun y => ?_⟩
  rw [hk _ _ (by omega) (by omega), hk _ _ (by omega) (by omega)]
  exact q3 y
theorem x_read {a b f d : Int32} {σ : Mem} {A : Nat → Nat} {z : Nat → Nat} {ln : Nat → Int32} {ce : Nat → Nat → Int32} {Q : Int32 → Mem → Prop} (hR : RX σ 12 A) (h33 : A 33 ≤ 999) (hH : HX σ z ln ce) (h0 : ¬ (wc 0 3 a ∧ wc 0 2 b ∧ wc 0 20 d) → Q (-1) σ)
    (h1 : ∀ k n, k < 4 → n ≤ 20 → a = nI k → d = nI n → wc 0 2 b → ∀ r, rdA (z k) (ln k) b f (ce k) n 0 A = (r, none) → ∀ τ : Mem, KX σ τ → Q r τ)
    (h2 : ∀ k n, k < 4 → n ≤ 20 → a = nI k → d = nI n → wc 0 2 b → ∀ r t B, rdA (z k) (ln k) b f (ce k) n 0 A = (r, some (t, B)) → ∀ τ : Mem, RX τ 12 B → τ.1 0 9 = t → (∀ x y, (x < 12 ∨ (26 ≤ x ∧ x < 61) ∨ 64 ≤ x) → ¬ (x = 0 ∧ y = 9) → τ.1 x y = σ.1 x y) → τ.2 = σ.2 → Q r τ) : wp_X5_read a b f d σ Q := by
  intro P55 P124 P130 h55 h124 h130
  refine x_isSheet (fun h => b01 (h0 (fun q => h q.1))) (fun ha => b11 ?_)
  refine x_isLane (fun h => b01 (h0 (fun q => h q.2.1))) (fun hb => b11 ?_)
  refine x_wi (fun h => b00 (h0 (fun q => h q.2.2))) (fun hd => b10 ?_)
  obtain ⟨k, hk, rfl⟩ := wc_of (n := 3) rfl (by omega) ha
  obtain ⟨n, hn, rfl⟩ := wc_of (n := 20) rfl (by omega) hd
  have hk4 : k < 4 := by omega
  have h1 := h1 k n hk4 hn rfl rfl hb
  have h2 := h2 k n hk4 hn rfl rfl hb
  rw [nI_clamp (show k < 2 ^ 31 by omega)] at h55
  obtain ⟨W0, hW⟩ : ∃ W0, rdA (z k) (ln k) b f (ce k) n 0 A = W0 := ⟨_, rfl⟩
  rw [hW] at h1 h2
  have fin : ∀ (r t : Int32) (B : Nat → Nat) (τ : Mem), W0 = (r, some (t, B)) → RX τ 19 B → KX σ τ → P130 r t τ := by
    intro r t B τ e hB hK
    apply h130
    refine x_copy hB (by omega) (fun υ u1 _ u2 u3 => ?_)
    rintro _ rfl
    refine h2 r t B e _ (u1.frame (fun x y q1 q2 => mm1 (by omega))) mm3 (fun x y q1 q2 => ?_) (by rw [ms1, u3]; exact hK.2)
    rw [st1_get, if_neg q2, u2 x y (by omega)]
    exact hK.1 x y (by omega)
  have key : ∀ (m i : Nat) (B : Nat → Nat) (τ : Mem), i + m = n → RX τ 19 B → B 33 ≤ 999 → KX σ τ → W0 = rdA (z k) (ln k) b f (ce k) m i B → P55 (nI i) 0 (nI i) τ := by
    intro m
    induction m with
    | zero =>
      intro i B τ hi hB hB3 hK e
      apply h55
      refine ⟨pk_in k 4 hk4, ?_⟩
      refine pk_le n i (fun _ => ?_) (fun q => by omega)
      exact fin _ _ B τ e hB hK
    | succ m ih =>
      intro i B τ hi hB hB3 hK e
      have hHt : HX τ z ln ce := hH.fr (fun x y q1 q2 => hK.1 x y (by omega))
      apply h55
      refine ⟨pk_in k 4 hk4, ?_⟩
      refine pk_le n i (fun q => by omega) (fun _ => ⟨fun q => absurd rfl q, fun _ => ?_⟩)
      rintro _ rfl
      refine x_flt2 hHt hk4 ?_
      unfold rdA at e
      refine ⟨fun e1 => ?_, fun e1 => ?_⟩
      · rw [cs_f e1] at e
        apply h124
        refine ⟨pk_in k 4 hk4, ?_⟩
        rintro _ rfl
        apply h55
        refine ⟨pk_in k 4 hk4, fun _ => fin _ _ B τ e hB hK, fun _ => ⟨fun _ => fin _ _ B τ e hB hK, fun q => absurd q e1⟩⟩
      · rw [cs_t e1] at e
        obtain ⟨p, hp, ep, ez, ez2⟩ := flt2_0 (fun y => ((hH k hk4).2.2 y).1) e1
        rw [ep] at e ⊢
        rw [nI_1] at e ⊢
        rw [nI_clamp (show p < 2 ^ 31 by omega), nI_clamp (show p + 1 < 2 ^ 31 by omega)] at e ⊢
        refine ⟨pk_in p 40 (by omega), pk_in (p + 1) 40 (by omega), ?_⟩
        rw [(hHt k hk4).1 p (by omega), (hHt k hk4).1 (p + 1) (by omega)]
        refine x_trains hB hB3 (fun e2 => b00 ?_) (fun e2 τ' t1 t2 t3 => b10 ?_)
        · rw [cs_f e2] at e
          exact h1 _ e τ hK
        · rw [cs_t e2] at e
          rintro _ rfl
          apply h124
          refine ⟨pk_in k 4 hk4, ?_⟩
          rintro _ rfl
          rw [nI_1]
          have := (rdN_ok hB.1 e2).2.2.1
          have h4 := e2.2.2.2
          have e1' : flt2 (z k) (ln k) b (nI p) = 0 := by rw [← ep]; exact e1
          rw [e1']
          exact ih (i + 1) _ τ' (by omega) t1 (by omega) (hK.tr (KX.of t2 t3)) e
  refine ⟨pk_in k 4 hk4, ?_⟩
  exact x_try hR (fun τ t1 _ t2 => key n 0 A τ (by omega) t1 h33 t2 hW.symm)
theorem v64 {f : Int32} {i : Nat} (hi : i ≤ 20) (h : i = 0 ∨ ∃ φ, f = nI φ ∧ φ + 2 * i ≤ 40) : f.toInt64 + (2 * nI i).toInt64 + (nI 0).toInt64 = (f + 2 * nI i).toInt64 := by
  rcases h with rfl | ⟨φ, rfl, hφ⟩
  · rw [show (2 : Int32) * nI 0 = 0 from rfl, show (nI 0).toInt64 = 0 from rfl, show (0 : Int32).toInt64 = 0 from rfl, Int64.add_zero, Int64.add_zero, Int32.add_zero]
  · rw [show (2 : Int32) = nI 2 from rfl, pk_mul, nI_add, nI_64 (by omega), nI_64 (by omega), nI_64 (by omega), nI_64 (by omega), ← Int64.ofNat_add, ← Int64.ofNat_add, Nat.add_zero]
theorem v641 {f : Int32} {i p : Nat} (hi : i ≤ 20) (h : i = 0 ∨ ∃ φ, f = nI φ ∧ φ + 2 * i ≤ 40) (hp : f + 2 * nI i = nI p) (hp2 : p < 50) : f.toInt64 + (2 * nI i).toInt64 + (nI 1).toInt64 = (f + 2 * nI i + 1).toInt64 := by
  have e := v64 hi h
  rw [show (nI 0).toInt64 = 0 from rfl, Int64.add_zero] at e
  rw [e, hp, nI_1, nI_64 (by omega), nI_64 (by omega), nI_64 (by omega), ← Int64.ofNat_add]
theorem wc_lt {n : Nat} {v : Int32} (hn : n < 2 ^ 31) : wc 0 (nI n - 1) v ↔ ¬ v < 0 ∧ v < nI n := by
  constructor
  · intro h
    obtain ⟨j, hj, rfl⟩ := (in_split v n hn).elim id (fun q => absurd h q)
    exact ⟨Int32.not_lt.mpr (nI_pos' (by omega)), nI_lt hj hn⟩
  · rintro ⟨h1, h2⟩
    obtain ⟨j, hj, rfl⟩ := nI_of h1
    rw [nI_ltI hj hn] at h2
    exact in_yes hn h2
theorem m_read {a b f d : Int32} {σ : Mem} {A : Nat → Nat} {z : Nat → Nat} {ln : Nat → Int32} {ce : Nat → Nat → Int32} {Q : Int32 → Mem → Prop} (hR : Rl (σ.1 65) A) (h33 : A 33 ≤ 999) (hH : HM σ z ln ce) (h0 : ¬ (wc 0 3 a ∧ wc 0 2 b ∧ wc 0 20 d) → Q (-1) σ)
    (h1 : ∀ k n, k < 4 → n ≤ 20 → a = nI k → d = nI n → wc 0 2 b → ∀ r, rdA (z k) (ln k) b f (ce k) n 0 A = (r, none) → ∀ τ : Mem, KM σ τ → Q r τ)
    (h2 : ∀ k n, k < 4 → n ≤ 20 → a = nI k → d = nI n → wc 0 2 b → ∀ r t B, rdA (z k) (ln k) b f (ce k) n 0 A = (r, some (t, B)) → ∀ τ : Mem, Rl (τ.1 65) B → (∀ y, 36 ≤ y → τ.1 65 y = σ.1 65 y) → τ.1 64 29 = t → (∀ x y, x ≠ 65 → x ≠ 66 → x ≠ 77 → ¬ (x = 64 ∧ 17 ≤ y ∧ y ≤ 19) → ¬ (x = 64 ∧ y = 29) → τ.1 x y = σ.1 x y) → Q r τ) : wp_X6_read a b f d σ Q := by
  intro P26 P62 P77 P151 P156 P164 P215 P218 P254 P260 h26 h62 h77 h151 h156 h164 h215 h218 h254 h260
  refine m_isSheet (fun h => b01 (h0 (fun q => h ⟨q.1, q.2.1⟩))) (fun ha hb => b11 ?_)
  refine m_wi 0 20 rfl rfl (fun h => b00 (h0 (fun q => h q.2.2))) (fun hd => b10 ?_)
  obtain ⟨k, hk, rfl⟩ := wc_of (n := 3) rfl (by omega) ha
  obtain ⟨n, hn, rfl⟩ := wc_of (n := 20) rfl (by omega) hd
  have hk4 : k < 4 := by omega
  have h1 := h1 k n hk4 hn rfl rfl hb
  have h2 := h2 k n hk4 hn rfl rfl hb
  obtain ⟨W0, hW⟩ : ∃ W0, rdA (z k) (ln k) b f (ce k) n 0 A = W0 := ⟨_, rfl⟩
  rw [hW] at h1 h2
  have fin : ∀ (r t : Int32) (B : Nat → Nat) (τ : Mem), W0 = (r, some (t, B)) → Rl (τ.1 65) B → (∀ y, 36 ≤ y → τ.1 65 y = σ.1 65 y) → (∀ x y, x ≠ 65 → x ≠ 66 → x ≠ 77 → ¬ (x = 64 ∧ 17 ≤ y ∧ y ≤ 19) → τ.1 x y = σ.1 x y) → P260 t r τ := by
    intro r t B τ e hB g1 g2
    apply h260
    rintro _ rfl
    refine h2 r t B e _ (hB.fr (fun j _ => mm1 (by omega))) (fun y hy => by rw [mm1 (by omega)]; exact g1 y hy) mm3 (fun x y q1 q2 q3 q4 q5 => ?_)
    rw [st1_get, if_neg q5]
    exact g2 x y q1 q2 q3 q4
  have fail : ∀ (i : Nat) (τ : Mem), W0 = (-20 - nI i, none) → (∀ y, 36 ≤ y → τ.1 65 y = σ.1 65 y) → (∀ j, j < 49 → τ.1 77 j = σ.1 65 j) → (∀ x y, x ≠ 65 → x ≠ 66 → x ≠ 77 → ¬ (x = 64 ∧ 17 ≤ y ∧ y ≤ 19) → τ.1 x y = σ.1 x y) → P215 (nI i) τ := by
    intro i τ e g1 g2 g3
    apply h215
    have key : ∀ m j : Nat, ∀ υ : Mem, j + m = 49 → (∀ y, y < j → υ.1 65 y = σ.1 65 y) → (∀ y, 36 ≤ y → υ.1 65 y = σ.1 65 y) → (∀ j, j < 49 → υ.1 77 j = σ.1 65 j) → (∀ x y, x ≠ 65 → x ≠ 66 → x ≠ 77 → ¬ (x = 64 ∧ 17 ≤ y ∧ y ≤ 19) → υ.1 x y = σ.1 x y) → P218 (nI i) (nI j) υ := by
      intro m
      induction m with
      | zero =>
        intro j υ hj k1 k2 k3 k4
        apply h218
        refine pk_le 49 j (fun _ => ?_) (fun q => by omega)
        refine h1 _ e υ (fun x y q1 q2 q3 q4 q5 q6 => ?_)
        by_cases hx : x = 65
        · subst hx
          by_cases hy : y < 49
          · exact k1 y (by omega)
          · exact k2 y (by omega)
        · exact k4 x y hx q1 q5 q6
      | succ m ih =>
        intro j υ hj k1 k2 k3 k4
        apply h218
        refine pk_le 49 j (fun q => by omega) (fun _ => ?_)
        refine ⟨pk_in j 49 (by omega), pk_in j 147 (by omega), ?_⟩
        rintro _ rfl _ rfl
        rw [nI_clamp (show j < 2 ^ 31 by omega), nI_1]
        refine ih (j + 1) _ (by omega) (fun y hy => ?_) (fun y hy => ?_) (fun y hy => by rw [mm1 (by omega)]; exact k3 y hy) (fun x y q1 q2 q3 q4 => by rw [mm1 q1]; exact k4 x y q1 q2 q3 q4)
        · rw [st1_get]
          by_cases e1 : y = j
          · rw [if_pos ⟨rfl, e1⟩, k3 j (by omega), e1]
          · rw [if_neg (fun q => e1 q.2)]
            exact k1 y (by omega)
        · rw [st1_get]
          by_cases e1 : y = j
          · rw [if_pos ⟨rfl, e1⟩, k3 j (by omega), e1]
          · rw [if_neg (fun q => e1 q.2)]
            exact k2 y hy
    exact key 49 0 τ (by omega) (fun y hy => by omega) g1 g2 g3
  rw [nI_clamp (show k < 2 ^ 31 by omega)] at h77
  have step : ∀ (i c : Nat) (v : Int32) (τ : Mem), c < 2 → HM τ z ln ce → f.toInt64 + (2 * nI i).toInt64 + (nI c).toInt64 = v.toInt64 → P77 (flt (z k) (ln k) b v) (nI i) (nI i) (nI (c + 1)) τ → P77 0 (nI i) (nI i) (nI c) τ := by
    intro i c v τ hc hHt hv hP
    apply h77
    refine pk_le 2 c (fun q => by omega) (fun _ => ⟨fun q => absurd rfl q, fun _ => ?_⟩)
    rintro _ rfl
    rw [hv, lg_cmp_lt, lg_cmp_lt]
    refine ⟨pk_in k 4 hk4, ?_⟩
    obtain ⟨q1, q2, q3⟩ := hHt k hk4
    unfold flt at hP
    have go : ∀ r, P77 r (nI i) (nI i) (nI (c + 1)) τ → P156 (nI i) (nI i) (nI c) r τ := by
      intro r hr
      apply h156
      rintro _ rfl
      rw [nI_1]
      exact hr
    by_cases hz : z k = 0
    · rw [cs_t hz] at hP
      exact ⟨fun y => absurd (q2 hz) y, fun _ => go _ hP⟩
    · rw [cs_f hz] at hP
      obtain ⟨p1, p2, p3, p4⟩ := q3 hz
      rw [p2, p3]
      refine ⟨fun _ => ⟨pk_in k 4 hk4, fun e => ?_, fun e => ?_⟩, fun y => absurd p4.1 (by rw [y]; decide)⟩
      · rw [cs_t e.symm] at hP
        rw [show (0 : Int64) = (0 : Int32).toInt64 from rfl, lt64, lt64]
        refine ⟨fun y => ?_, fun y => ⟨pk_in k 4 hk4, fun y2 => ?_, fun y2 => ?_⟩⟩
        · rw [cs_f (fun q => ((wc_lt (by omega)).mp q).1 y)] at hP
          exact h151 _ _ _ _ (go _ hP)
        · rw [cs_t ((wc_lt (by omega)).mpr ⟨y, y2⟩)] at hP
          exact go _ hP
        · rw [cs_f (fun q => y2 ((wc_lt (by omega)).mp q).2)] at hP
          exact h151 _ _ _ _ (go _ hP)
      · rw [cs_f (fun q => e q.symm)] at hP
        exact go _ hP
  have key : ∀ (m i : Nat) (B : Nat → Nat) (τ : Mem), i + m = n → (i = 0 ∨ ∃ φ, f = nI φ ∧ φ + 2 * i ≤ 40) → Rl (τ.1 65) B → B 33 ≤ 999 → (∀ y, 36 ≤ y → τ.1 65 y = σ.1 65 y) → (∀ j, j < 49 → τ.1 77 j = σ.1 65 j) → (∀ x y, x ≠ 65 → x ≠ 66 → x ≠ 77 → ¬ (x = 64 ∧ 17 ≤ y ∧ y ≤ 19) → τ.1 x y = σ.1 x y) → W0 = rdA (z k) (ln k) b f (ce k) m i B → P62 0 (nI i) (nI i) τ := by
    intro m
    induction m with
    | zero =>
      intro i B τ hi hf hB hB3 g1 g2 g3 e
      apply h62
      refine pk_le n i (fun _ => ?_) (fun q => by omega)
      exact fin _ _ B τ e hB g1 g3
    | succ m ih =>
      intro i B τ hi hf hB hB3 g1 g2 g3 e
      have hHt : HM τ z ln ce := hH.fr (fun x y q1 q2 => g3 x y (by omega) (by omega) (by omega) (by omega))
      apply h62
      refine pk_le n i (fun q => by omega) (fun _ => ⟨fun q => absurd rfl q, fun _ => ?_⟩)
      unfold rdA at e
      have hz41 : ¬ z k = 0 → z k ≤ 41 := fun y => ((hH k hk4).2.2 y).1
      have main : P164 (flt2 (z k) (ln k) b (f + 2 * nI i)) (nI i) (nI i) τ := by
        apply h164
        refine ⟨fun e1 => ?_, fun e1 => ?_⟩
        · rw [cs_f e1] at e
          apply h254
          rintro _ rfl
          apply h62
          exact ⟨fun _ => fin _ _ B τ e hB g1 g3, fun _ => ⟨fun _ => fin _ _ B τ e hB g1 g3, fun q => absurd q e1⟩⟩
        · rw [cs_t e1] at e
          obtain ⟨p, hp, ep, ez, ez2⟩ := flt2_0 hz41 e1
          rintro _ rfl
          rw [Int32.add_assoc, ep, show (40 : Int32) = nI 40 from rfl, pk_mul, nI_add, nI_1, nI_clamp (show 40 * k + p < 2 ^ 31 by omega), nI_clamp (show 40 * k + p + 1 < 2 ^ 31 by omega)]
          rw [ep, nI_1, nI_clamp (show p < 2 ^ 31 by omega), nI_clamp (show p + 1 < 2 ^ 31 by omega)] at e
          refine ⟨pk_in (40 * k + p) 160 (by omega), pk_in (40 * k + p + 1) 160 (by omega), ?_⟩
          rw [Nat.add_assoc, (hHt k hk4).1 p (by omega), (hHt k hk4).1 (p + 1) (by omega)]
          have w6 := hB.1.1
          refine m_alter hB (fun e2 => ⟨fun _ => ?_, fun q => absurd rfl q⟩) (fun j w v ej ew ev hj hv => ?_)
          · rw [cs_f (fun q => e2 ⟨q.1, q.2.1⟩)] at e
            exact fail i τ e g1 g2 g3
          · have hw1 : w = 1 := by
              rw [show (1 : Int32) = nI 1 from rfl, nI_eq (by omega) (by unfold okT at hv; omega)] at ew
              exact ew.symm
            subst hw1
            have hv20 : v ≤ 20 := by unfold okT at hv; omega
            have bw := hB.1.2.1 j hj
            refine ⟨fun q => ?_, fun _ => ?_⟩
            · have := nI_pos' (n := B (4 * j + 1)) (by omega)
              rw [q] at this
              exact absurd this (by decide)
            have hB1 : Rl ((st1 τ 65 (4 * j + 1) (nI v)).1 65) (setA B (4 * j + 1) v) := hB.setT hj hv
            have e33 : setA B (4 * j + 1) v 33 = B 33 := setA_ne (by omega)
            have e24 : setA B (4 * j + 1) v 24 = B 24 := setA_ne (by omega)
            have hcj : hc B (ce k p) := by rw [ej]; exact hc_nI w6 hj
            have htj : tOK 1 (ce k (p + 1)) := by
              rw [ev]
              exact Or.inr (Or.inl ⟨rfl, nI_pos' (by omega), nI_le (b := 20) hv20 (by omega)⟩)
            have f1 : ∀ y, 36 ≤ y → (st1 τ 65 (4 * j + 1) (nI v)).1 65 y = σ.1 65 y := fun y hy => by rw [mm2 (by omega)]; exact g1 y hy
            have f2 : ∀ y, y < 49 → (st1 τ 65 (4 * j + 1) (nI v)).1 77 y = σ.1 65 y := fun y hy => by rw [mm1 (by omega)]; exact g2 y hy
            have f3 : ∀ x y, x ≠ 65 → x ≠ 66 → x ≠ 77 → ¬ (x = 64 ∧ 17 ≤ y ∧ y ≤ 19) → (st1 τ 65 (4 * j + 1) (nI v)).1 x y = σ.1 x y := fun x y q1 q2 q3 q4 => by rw [mm1 q1]; exact g3 x y q1 q2 q3 q4
            refine m_reigns hB1 (fun q => absurd (show wc 0 30 1 from ⟨by decide, by decide⟩) q) (fun _ q => ⟨fun y => absurd y (by decide), fun _ => ?_⟩) (fun _ _ q => ⟨fun y => absurd y (by decide), fun _ => ?_⟩) (fun n' hn' en' g24 hrg υ u1 u2 u3 => ?_)
            · rw [cs_f (fun y => by have := y.2.2.1; omega)] at e
              exact fail i _ e f1 f2 f3
            · have hnot : ¬ B 33 < 999 := fun y => q (by
                unfold rgOK
                rw [e33, nI_1]
                exact nI_le (b := 999) (by omega) (by omega))
              rw [cs_f (fun y => hnot y.2.2.2)] at e
              exact fail i _ e f1 f2 f3
            · have hn1 : n' = 1 := by
                rw [show (1 : Int32) = nI 1 from rfl, nI_eq (by omega) (by omega)] at en'
                exact en'.symm
              subst hn1
              have h4 : B 33 < 999 := by
                unfold rgOK at hrg
                rw [e33, nI_1, show (999 : Int32) = nI 999 from rfl, nI_leI (by omega) (by omega)] at hrg
                omega
              have hok : rdOK B (ce k p) (ce k (p + 1)) := ⟨hcj, htj, by omega, h4⟩
              rw [cs_t hok] at e
              have eN : rdN B (ce k p) (ce k (p + 1)) = itA 1 (setA B (4 * j + 1) v) := by
                unfold rdN
                rw [ej, ev, nI_clamp (show j < 2 ^ 31 by omega), nI_clamp (show v < 2 ^ 31 by omega)]
                rfl
              obtain ⟨n1, n2, n3, n4⟩ := rdN_ok hB.1 hok
              have hw32 := n1.2.2.2.2.2.2
              rw [eN] at e n1 n2 n3 n4 hw32
              refine ⟨fun _ => ?_, fun y => absurd (nI_pos' (by omega)) y⟩
              rintro _ rfl
              apply h254
              rintro _ rfl
              rw [nI_1, show flt2 (z k) (ln k) b (nI p) = 0 by rw [← ep]; exact e1]
              refine ih (i + 1) _ υ (by omega) ?_ u1 (by omega) (fun y hy => by rw [u2 y hy]; exact f1 y hy) (fun y hy => by rw [u3 77 y (by omega) (by omega) (by omega)]; exact f2 y hy) (fun x y q1 q2 q3 q4 => by rw [u3 x y q1 q2 q4]; exact f3 x y q1 q2 q3 q4) e
              rcases hf with rfl | ⟨φ, rfl, hφ⟩
              · right
                have : f + 2 * nI 0 = f := by rw [show (2 : Int32) * nI 0 = 0 from rfl, Int32.add_zero]
                rw [this] at ep
                exact ⟨p, ep, by omega⟩
              · right
                rw [show (2 : Int32) = nI 2 from rfl, pk_mul, nI_add, nI_eq (by omega) (by omega)] at ep
                exact ⟨φ, rfl, by omega⟩
      refine step i 0 _ τ (by omega) hHt (v64 (by omega) hf) ?_
      by_cases e1 : flt (z k) (ln k) b (f + 2 * nI i) = 0
      · obtain ⟨p, hp, ep, ez, -⟩ := flt0 hz41 e1
        have := hz41 ez
        rw [e1]
        refine step i 1 _ τ (by omega) hHt (v641 (by omega) hf ep (by omega)) ?_
        apply h77
        refine ⟨fun _ => ?_, fun q => absurd (by decide) q⟩
        unfold flt2 at main
        rw [cs_t e1] at main
        exact main
      · apply h77
        refine ⟨fun q => absurd q (by decide), fun _ => ⟨fun _ => ?_, fun q => absurd q e1⟩⟩
        unfold flt2 at main
        rw [cs_f e1] at main
        exact main
  have cpy : ∀ m j : Nat, ∀ τ : Mem, j + m = 49 → (∀ y, y < j → τ.1 77 y = σ.1 65 y) → (∀ x y, x ≠ 77 → τ.1 x y = σ.1 x y) → P26 (nI j) τ := by
    intro m
    induction m with
    | zero =>
      intro j τ hj g1 g2
      apply h26
      refine pk_le 49 j (fun _ => ?_) (fun q => by omega)
      exact key n 0 A τ (by omega) (Or.inl rfl) (hR.fr (fun y _ => g2 65 y (by omega))) h33 (fun y _ => g2 65 y (by omega)) (fun y hy => g1 y (by omega)) (fun x y _ _ q _ => g2 x y q) hW.symm
    | succ m ih =>
      intro j τ hj g1 g2
      apply h26
      refine pk_le 49 j (fun q => by omega) (fun _ => ?_)
      refine ⟨pk_in j 147 (by omega), pk_in j 49 (by omega), ?_⟩
      rintro _ rfl _ rfl
      rw [nI_clamp (show j < 2 ^ 31 by omega), nI_1]
      refine ih (j + 1) _ (by omega) (fun y hy => ?_) (fun x y q => by rw [mm1 q]; exact g2 x y q)
      rw [st1_get]
      by_cases e : y = j
      · rw [if_pos ⟨rfl, e⟩, e]
        exact g2 65 j (by omega)
      · rw [if_neg (fun q => e q.2)]
        exact g1 y (by omega)
  exact cpy 49 0 σ (by omega) (fun y hy => by omega) (fun _ _ _ => rfl)
