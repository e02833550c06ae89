/-! ask -/
noncomputable def tlA (A : Nat → Nat) (h : Nat) : Nat → Nat → Nat → Nat
  | 0 => fun _ _ => 0
  | v + 1 => fun r k => tlA A h v r k + cs (fitP A (setA A (4 * h + 1) v) ∧ k = itA r (setA A (4 * h + 1) v) 26) 1 0
noncomputable def ftA (A : Nat → Nat) (h : Nat) : Nat → Nat
  | 0 => 0
  | v + 1 => ftA A h v + cs (fitP A (setA A (4 * h + 1) v)) 1 0
theorem tl_le {A : Nat → Nat} {h : Nat} : ∀ v r k, tlA A h v r k ≤ v := by
  intro v
  induction v with
  | zero => intro r k; exact Nat.le_refl _
  | succ v ih =>
    intro r k
    have := ih r k
    show tlA A h v r k + cs _ _ _ ≤ _
    by_cases q : fitP A (setA A (4 * h + 1) v) ∧ k = itA r (setA A (4 * h + 1) v) 26
    · rw [cs_t q]; omega
    · rw [cs_f q]; omega
theorem ft_le {A : Nat → Nat} {h : Nat} : ∀ v, ftA A h v ≤ v := by
  intro v
  induction v with
  | zero => exact Nat.le_refl _
  | succ v ih =>
    show ftA A h v + cs _ _ _ ≤ _
    by_cases q : fitP A (setA A (4 * h + 1) v)
    · rw [cs_t q]; omega
    · rw [cs_f q]; omega
noncomputable def mxK (y : Nat → Nat) : Nat → Nat → Nat → Nat
  | 0, _, x => x
  | m + 1, k, x => mxK y m (k + 1) (cs (y k ≤ x) x (y k))
theorem mxK_le {y : Nat → Nat} {B : Nat} (hy : ∀ k, y k ≤ B) : ∀ m k x, x ≤ B → mxK y m k x ≤ B := by
  intro m
  induction m with
  | zero => intro k x h; exact h
  | succ m ih =>
    intro k x h
    refine ih (k + 1) _ ?_
    by_cases q : y k ≤ x
    · rw [cs_t q]; exact h
    · rw [cs_f q]; exact hy k
noncomputable def fAsk (A : Nat → Nat) (h r : Nat) : Int32 := nI (mxK (tlA A h 21 (r - 1)) 6 0 0)
noncomputable def sAsk (A : Nat → Nat) (h : Nat) : Int32 × Int32 := few (fAsk A h) 20 1 (nI (ftA A h 21), -4)
noncomputable def aAsk (A : Nat → Nat) (a b : Int32) : Int32 := ans (hc A a ∧ wc 0 1 b) A (pickA (sAsk A a.toNatClampNeg) b)
theorem x_tally {h : Nat} {σ : Mem} {A : Nat → Nat} {Q : Int32 → Mem → Prop} (hR : RX σ 12 A) (hS : SX σ 26 A) (h2 : 2 ≤ A 24) (hh : h < A 24)
    (hQ : ∀ τ : Mem, KX σ τ → (∀ r k, r < 20 → k < 6 → τ.1 63 (r * 6 + k) = nI (tlA A h 21 r k)) → Q (nI (ftA A h 21)) τ) : wp_X5_tallyKings (nI h) σ Q := by
  have w6 := hR.1.1
  intro P2 P28 P50 P85 h2' h28 h50 h85
  have k2 : ∀ m v : Nat, ∀ τ : Mem, v + m = 21 → (∀ r k, r < 20 → k < 6 → τ.1 63 (r * 6 + k) = nI (tlA A h v r k)) → KX σ τ → P28 (nI (ftA A h v)) (nI v) τ := by
    intro m
    induction m with
    | zero =>
      intro v τ hv g1 g4
      apply h28
      refine pk_lt 20 v (fun _ => ?_) (fun q => by omega)
      rw [show v = 21 by omega] at g1 ⊢
      exact hQ τ g4 g1
    | succ m ih =>
      intro v τ hv g1 g4
      apply h28
      refine pk_lt 20 v (fun q => by omega) (fun _ => ?_)
      have next : ∀ υ : Mem, KX σ υ → (∀ r k, r < 20 → k < 6 → υ.1 63 (r * 6 + k) = nI (tlA A h (v + 1) r k)) → ∀ x : Nat, x = ftA A h (v + 1) → P85 (nI x) (nI v) υ := by
        rintro υ k q x rfl
        refine h85 _ _ _ ?_
        rintro _ rfl
        rw [nI_1]
        exact ih (v + 1) υ (by omega) q k
      have W' := hR.1.set (h := h) (w := 1) (v := v) hh (by unfold okT; omega)
      have e24 : setA A (4 * h + 1) v 24 = A 24 := setA_ne (by omega)
      refine x_asSeen (w := 1) (hR.now g4) (hS.fr (fun a b q1 q2 => g4.1 a b (by omega))) h2 hh (by unfold okT; omega) (fun hf υ k k63 kk => b11 ?_) (fun hf υ k k63 => b01 (next υ (g4.tr k) (fun r q hr hq => ?_) _ ?_))
      · rintro _ rfl
        rw [nI_1]
        have inner : ∀ m j : Nat, ∀ ψ : Mem, j + m = 20 → (∀ r q, r < 20 → q < 6 → ψ.1 63 (r * 6 + q) = nI (tlA A h v r q + (if r < j ∧ q = itA r (setA A (4 * h + 1) v) 26 then 1 else 0))) → (∀ r, r < 20 → ψ.1 61 r = nI (itA r (setA A (4 * h + 1) v) 26)) → KX σ ψ → P50 (nI (ftA A h v + 1)) (nI v) (nI j) ψ := by
          intro m
          induction m with
          | zero =>
            intro j ψ hj q1 q2 q4
            apply h50
            refine pk_le 20 j (fun _ => next ψ q4 (fun r q hr hq => ?_) _ ?_) (fun q => by omega)
            · rw [q1 r q hr hq]
              congr 1
              show _ = tlA A h v r q + cs _ _ _
              by_cases e : q = itA r (setA A (4 * h + 1) v) 26
              · rw [if_pos ⟨by omega, e⟩, cs_t ⟨hf, e⟩]
              · rw [if_neg (fun z => e z.2), cs_f (fun z => e z.2)]
            · show _ = ftA A h v + cs _ _ _
              rw [cs_t hf]
          | succ m ihm =>
            intro j ψ hj q1 q2 q4
            apply h50
            refine pk_le 20 j (fun q => by omega) (fun _ => ?_)
            have wj := it_wf W' (by omega) j
            have b1 := wj.1.2.2.1 1 (by omega)
            simp only [Nat.reduceAdd] at b1
            have bk : itA j (setA A (4 * h + 1) v) 26 < 6 := by omega
            have l1 : tlA A h v j (itA j (setA A (4 * h + 1) v) 26) ≤ v := tl_le v _ _
            rw [nI_clamp (show j < 2 ^ 31 by omega), q2 j (by omega), show (6 : Int32) = nI 6 from rfl, pk_mul, nI_add, nI_clamp (show j * 6 + itA j (setA A (4 * h + 1) v) 26 < 2 ^ 31 by omega), q1 j _ (by omega) bk, nI_1]
            refine ⟨pk_in j 20 (by omega), pk_in (j * 6 + itA j (setA A (4 * h + 1) v) 26) 120 (by omega), pk_in (j * 6 + itA j (setA A (4 * h + 1) v) 26) 120 (by omega), ?_⟩
            rintro _ rfl _ rfl
            rw [nI_1]
            refine ihm (j + 1) _ (by omega) (fun r q hr hq => ?_) (fun r hr => ?_) (q4.st (by omega))
            · rw [st1_get]
              by_cases e : r = j ∧ q = itA j (setA A (4 * h + 1) v) 26
              · obtain ⟨rfl, rfl⟩ := e
                rw [if_pos ⟨rfl, rfl⟩, if_neg (by omega), if_pos ⟨by omega, rfl⟩]
              · rw [if_neg (by omega), q1 r q hr hq]
                congr 1
                by_cases e2 : r < j ∧ q = itA r (setA A (4 * h + 1) v) 26
                · rw [if_pos e2, if_pos ⟨by omega, e2.2⟩]
                · rw [if_neg e2, if_neg (fun z => by
                    rcases Nat.lt_or_eq_of_le (Nat.le_of_lt_succ z.1) with y | y
                    · exact e2 ⟨y, z.2⟩
                    · exact e ⟨y, by rw [← y]; exact z.2⟩)]
            · rw [mm1 (by omega)]
              exact q2 r hr
        refine inner 20 0 υ (by omega) (fun r q hr hq => ?_) kk (g4.tr k)
        rw [if_neg (by omega), Nat.add_zero, k63]
        exact g1 r q hr hq
      · rw [k63, g1 r q hr hq]
        congr 1
        show _ = tlA A h v r q + cs _ _ _
        rw [cs_f (fun z => hf z.1), Nat.add_zero]
      · show _ = ftA A h v + cs _ _ _
        rw [cs_f hf, Nat.add_zero]
  have k1 : ∀ m j : Nat, ∀ τ : Mem, j + m = 120 → (∀ x, x < j → τ.1 63 x = 0) → KX σ τ → P2 (nI j) τ := by
    intro m
    induction m with
    | zero =>
      intro j τ hj g1 g4
      apply h2'
      refine pk_le 120 j (fun _ => ?_) (fun q => by omega)
      exact k2 21 0 τ (by omega) (fun r k hr hk => by rw [g1 _ (by omega)]; rfl) g4
    | succ m ih =>
      intro j τ hj g1 g4
      apply h2'
      refine pk_le 120 j (fun q => by omega) (fun _ => ?_)
      refine ⟨pk_in j 120 (by omega), ?_⟩
      rintro _ rfl _ rfl
      rw [nI_clamp (show j < 2 ^ 31 by omega), nI_1]
      refine ih (j + 1) _ (by omega) (fun x hx => ?_) (g4.st (by omega))
      rw [st1_get]
      by_cases e : x = j
      · rw [if_pos ⟨rfl, e⟩]
      · rw [if_neg (by omega)]
        exact g1 x (by omega)
  exact k1 120 0 σ (by omega) (fun x hx => by omega) KX.rf
theorem x_most {h r : Nat} {σ : Mem} {A : Nat → Nat} {Q : Int32 → Mem → Prop} (hr : 1 ≤ r ∧ r ≤ 20) (ht : ∀ r k, r < 20 → k < 6 → σ.1 63 (r * 6 + k) = nI (tlA A h 21 r k)) (hQ : Q (fAsk A h r) σ) : wp_X5_mostTallied (nI r) σ Q := by
  intro P4 h4
  have key : ∀ m k x : Nat, k + m = 6 → x ≤ 21 → mxK (tlA A h 21 (r - 1)) m k x = mxK (tlA A h 21 (r - 1)) 6 0 0 → P4 (nI x) (nI k) σ := by
    intro m
    induction m with
    | zero =>
      intro k x hk hx g
      apply h4
      refine pk_le 6 k (fun _ => ?_) (fun q => by omega)
      unfold fAsk at hQ
      rw [← g] at hQ
      exact hQ
    | succ m ih =>
      intro k x hk hx g
      apply h4
      refine pk_le 6 k (fun q => by omega) (fun _ => ?_)
      have l1 : tlA A h 21 (r - 1) k ≤ 21 := tl_le 21 _ _
      rw [nI_p1 (by omega), show (6 : Int32) = nI 6 from rfl, pk_mul, nI_add, nI_clamp (show (r - 1) * 6 + k < 2 ^ 31 by omega), ht (r - 1) k (by omega) (by omega)]
      refine ⟨pk_in ((r - 1) * 6 + k) 120 (by omega), ?_⟩
      rintro _ rfl _ rfl
      rw [nI_1]
      have e : (if nI x < nI (tlA A h 21 (r - 1) k) then nI (tlA A h 21 (r - 1) k) else nI x) = nI (cs (tlA A h 21 (r - 1) k ≤ x) x (tlA A h 21 (r - 1) k)) := by
        by_cases q : tlA A h 21 (r - 1) k ≤ x
        · rw [if_neg (nI_nlt q (by omega)), cs_t q]
        · rw [if_pos (nI_lt (by omega) (by omega)), cs_f q]
      rw [e]
      refine ih (k + 1) _ (by omega) ?_ g
      by_cases q : tlA A h 21 (r - 1) k ≤ x
      · rw [cs_t q]; exact hx
      · rw [cs_f q]; exact l1
  exact key 6 0 0 (by omega) (by omega) rfl
theorem x_ask {a b : Int32} {σ : Mem} {A : Nat → Nat} {Q : Int32 → Mem → Prop} (hR : RX σ 12 A) (hS : SX σ 26 A) (hQ : ∀ τ : Mem, KX σ τ → Q (aAsk A a b) τ) : wp_X5_ask a b σ Q := by
  have w := hR.1.1
  intro P20 P21 P45 P75 h20 h21 h45 h75
  have bad : ¬ (hc A a ∧ wc 0 1 b) → P20 σ := fun hn => by
    refine h20 _ (h21 _ _ ?_)
    refine x_ref hR (fun _ => ?_) (fun q => absurd rfl q) (fun q => absurd rfl q)
    have := hQ σ KX.rf
    rw [show aAsk A a b = -1 from ans_bad hn] at this
    exact this
  refine x_isHeir hR.2.1 (fun h => b01 (bad (fun q => h q.1))) (fun ha => b11 ?_)
  refine x_isWhich (fun h => b01 (bad (fun q => h q.2))) (fun hb => b11 ?_)
  apply h21
  refine x_ref hR (fun q => absurd q (by decide)) (fun _ q => ?_) (fun _ h2 => ?_)
  · have := hQ σ KX.rf
    rw [show aAsk A a b = -2 from ans_two ⟨ha, hb⟩ q] at this
    exact this
  obtain ⟨g, hg, rfl⟩ := hc_of w ha
  refine x_tally hR hS h2 hg (fun τ t ht => ?_)
  have key : ∀ m j : Nat, ∀ s : Int32 × Int32, j + m = 21 → 1 ≤ j → few (fAsk A g) m j s = sAsk A g → P45 s.1 s.2 (nI j) τ := by
    intro m
    induction m with
    | zero =>
      intro j s hj hl g1
      apply h45
      refine pk_lt 20 j (fun _ => x_wom ?_) (fun q => by omega)
      have := hQ τ t
      rw [show aAsk A (nI g) b = _ from ans_yes ⟨ha, hb⟩ h2, nI_clamp (by omega), ← g1] at this
      exact this
    | succ m ih =>
      intro j s hj hl g1
      apply h45
      refine pk_lt 20 j (fun q => by omega) (fun _ => ?_)
      refine x_most ⟨hl, by omega⟩ ht ?_
      have go : ∀ s' : Int32 × Int32, s' = cs (s.1 ≤ fAsk A g j) s (fAsk A g j, nI j) → P75 s'.1 s'.2 (nI j) τ := by
        rintro _ rfl
        refine h75 _ _ _ _ ?_
        rintro _ rfl
        rw [nI_1]
        exact ih (j + 1) _ (by omega) (by omega) g1
      exact ⟨fun z => go s (cs_t z).symm, fun z => go (fAsk A g j, nI j) (cs_f z).symm⟩
  exact key 20 1 (nI (ftA A g 21), -4) (by omega) (by omega) rfl
theorem m_ask {a b : Int32} {σ : Mem} {A : Nat → Nat} {Q : Int32 → Mem → Prop} (hR : Rl (σ.1 65) A) (hS : SL (σ.1 65) A) (hQ : ∀ τ : Mem, KM σ τ → Q (aAsk A a b) τ) : wp_X6_ask a b σ Q := by
  have w := hR.1.1
  intro P36 P60 P84 P119 P128 P141 P184 P205 P219 h36 h60 h84 h119 h128 h141 h184 h205 h219
  have bad : ¬ (hc A a ∧ wc 0 1 b) → Q (-1) σ := fun hn => by
    have := hQ σ KM.rf
    rw [show aAsk A a b = -1 from ans_bad hn] at this
    exact this
  refine m_heir hR.2.1 (fun h => b01 (bad (fun q => h q.1))) (fun ha => b11 ?_)
  refine m_part (fun h => b00 (bad (fun q => h q.2))) (fun hb => b10 ?_)
  refine m_twoR hR (fun q => b00 ?_) (fun h2 => b10 ?_)
  · have := hQ σ KM.rf
    rw [show aAsk A a b = -2 from ans_two ⟨ha, hb⟩ q] at this
    exact this
  obtain ⟨g, hg, rfl⟩ := hc_of w ha
  have k4 : ∀ τ : Mem, KM σ τ → (∀ r k, r < 20 → k < 6 → τ.1 73 (6 * (r + 1) + k) = nI (tlA A g 21 r k)) → ∀ m j : Nat, ∀ s : Int32 × Int32, j + m = 21 → 1 ≤ j → few (fAsk A g) m j s = sAsk A g → P128 s.1 s.2 (nI j) τ := by
    intro τ t ht m
    induction m with
    | zero =>
      intro j s hj hl g1
      apply h128
      refine pk_lt 20 j (fun _ => ?_) (fun q => by omega)
      have := hQ τ t
      rw [show aAsk A (nI g) b = _ from ans_yes ⟨ha, hb⟩ h2, nI_clamp (by omega), ← g1] at this
      change Q (pickA s b) τ at this
      unfold pickA at this
      refine ⟨fun h => ⟨fun q => ?_, fun q => ?_⟩, fun h => ?_⟩
      · rw [cs_f h, cs_f q] at this; exact this
      · rw [cs_f h, cs_t q] at this; exact this
      · rw [cs_t h] at this; exact this
    | succ m ih =>
      intro j s hj hl g1
      apply h128
      refine pk_lt 20 j (fun q => by omega) (fun _ => ?_)
      have inner : ∀ m k x : Nat, k + m = 6 → x ≤ 21 → mxK (tlA A g 21 (j - 1)) m k x = mxK (tlA A g 21 (j - 1)) 6 0 0 → P141 s.1 s.2 (nI j) (nI x) (nI k) τ := by
        intro m
        induction m with
        | zero =>
          intro k x hk hx e
          apply h141
          refine pk_le 6 k (fun _ => ?_) (fun q => by omega)
          have ex : nI x = fAsk A g j := by
            unfold fAsk
            rw [← e]
            rfl
          rw [ex]
          have go : ∀ s' : Int32 × Int32, s' = cs (s.1 ≤ fAsk A g j) s (fAsk A g j, nI j) → P219 s'.2 (nI j) s'.1 τ := by
            rintro _ rfl
            refine h219 _ _ _ _ ?_
            rintro _ rfl
            rw [nI_1]
            exact ih (j + 1) _ (by omega) (by omega) g1
          refine ⟨fun z => h205 _ _ _ _ _ ⟨fun _ => go s (cs_t z).symm, fun q => absurd z q⟩, fun z => h205 _ _ _ _ _ ⟨fun q => absurd q z, fun _ => go (fAsk A g j, nI j) (cs_f z).symm⟩⟩
        | succ m ihm =>
          intro k x hk hx e
          apply h141
          refine pk_le 6 k (fun q => by omega) (fun _ => ?_)
          have l1 : tlA A g 21 (j - 1) k ≤ 21 := tl_le 21 _ _
          have et := ht (j - 1) k (by omega) (by omega)
          rw [show j - 1 + 1 = j by omega] at et
          rw [show (6 : Int32) = nI 6 from rfl, pk_mul, nI_add, nI_clamp (show 6 * j + k < 2 ^ 31 by omega), et]
          refine ⟨pk_in (6 * j + k) 126 (by omega), ?_⟩
          have go : ∀ x' : Nat, x' ≤ 21 → x' = cs (tlA A g 21 (j - 1) k ≤ x) x (tlA A g 21 (j - 1) k) → P184 s.1 s.2 (nI j) (nI k) (nI x') τ := by
            intro x' hx' e'
            refine h184 _ _ _ _ _ _ ?_
            rintro _ rfl
            rw [nI_1]
            exact ihm (k + 1) x' (by omega) hx' (by rw [← e, e']; rfl)
          exact pk_le (tlA A g 21 (j - 1) k) x (fun z => go x hx (cs_t z).symm) (fun z => ⟨pk_in (6 * j + k) 126 (by omega), go _ l1 (cs_f (by omega)).symm⟩)
      exact inner 6 0 0 (by omega) (by omega) rfl
  have k2 : ∀ m v : Nat, ∀ τ : Mem, v + m = 21 → (∀ r k, r < 20 → k < 6 → τ.1 73 (6 * (r + 1) + k) = nI (tlA A g v r k)) → KM σ τ → P60 (nI (ftA A g v)) (-4) (nI v) τ := by
    intro m
    induction m with
    | zero =>
      intro v τ hv g1 g4
      apply h60
      refine pk_lt 20 v (fun _ => ?_) (fun q => by omega)
      rw [show v = 21 by omega] at g1 ⊢
      exact k4 τ g4 g1 20 1 (nI (ftA A g 21), -4) (by omega) (by omega) rfl
    | succ m ih =>
      intro v τ hv g1 g4
      apply h60
      refine pk_lt 20 v (fun q => by omega) (fun _ => ?_)
      have k65 : ∀ b, τ.1 65 b = σ.1 65 b := fun b => g4 65 b (by omega) (by omega) (by omega) (by omega) (by omega) (by omega)
      have next : ∀ υ : Mem, KM σ υ → (∀ r k, r < 20 → k < 6 → υ.1 73 (6 * (r + 1) + k) = nI (tlA A g (v + 1) r k)) → ∀ x : Nat, x = ftA A g (v + 1) → P119 (nI x) (-4) (nI v) υ := by
        rintro υ k q x rfl
        refine h119 _ _ _ _ ?_
        rintro _ rfl
        rw [nI_1]
        exact ih (v + 1) υ (by omega) q k
      have W' := hR.1.set (h := g) (w := 1) (v := v) hg (by unfold okT; omega)
      have e24 : setA A (4 * g + 1) v 24 = A 24 := setA_ne (by omega)
      refine m_soWith (w := 1) (hR.now g4) (hS.fr (fun b _ _ => k65 b)) h2 hg (by unfold okT; omega) (fun hf υ k k63 kk => b11 ?_) (fun hf υ k k63 => b01 (next υ (g4.tr k) (fun r q hr hq => ?_) _ ?_))
      · rintro _ rfl
        rw [nI_1]
        have inner : ∀ m j : Nat, ∀ ψ : Mem, j + m = 20 → (∀ r q, r < 20 → q < 6 → ψ.1 73 (6 * (r + 1) + q) = nI (tlA A g v r q + (if r < j ∧ q = itA r (setA A (4 * g + 1) v) 26 then 1 else 0))) → (∀ r, r < 20 → ψ.1 72 (r + 1) = nI (itA r (setA A (4 * g + 1) v) 26)) → KM σ ψ → P84 (nI (ftA A g v + 1)) (-4) (nI v) (nI (j + 1)) ψ := by
          intro m
          induction m with
          | zero =>
            intro j ψ hj q1 q2 q4
            apply h84
            refine pk_lt 20 (j + 1) (fun _ => next ψ q4 (fun r q hr hq => ?_) _ ?_) (fun q => by omega)
            · rw [q1 r q hr hq]
              congr 1
              show _ = tlA A g v r q + cs _ _ _
              by_cases e : q = itA r (setA A (4 * g + 1) v) 26
              · rw [if_pos ⟨by omega, e⟩, cs_t ⟨hf, e⟩]
              · rw [if_neg (fun z => e z.2), cs_f (fun z => e z.2)]
            · show _ = ftA A g v + cs _ _ _
              rw [cs_t hf]
          | succ m ihm =>
            intro j ψ hj q1 q2 q4
            apply h84
            refine pk_lt 20 (j + 1) (fun q => by omega) (fun _ => ?_)
            have wj := it_wf W' (by omega) j
            have b1 := wj.1.2.2.1 1 (by omega)
            simp only [Nat.reduceAdd] at b1
            have bk : itA j (setA A (4 * g + 1) v) 26 < 6 := by omega
            rw [nI_clamp (show j + 1 < 2 ^ 31 by omega), q2 j (by omega), show (6 : Int32) = nI 6 from rfl, pk_mul, nI_add, nI_clamp (show 6 * (j + 1) + itA j (setA A (4 * g + 1) v) 26 < 2 ^ 31 by omega), q1 j _ (by omega) bk, nI_1]
            refine ⟨pk_in (j + 1) 21 (by omega), pk_in (6 * (j + 1) + itA j (setA A (4 * g + 1) v) 26) 126 (by omega), pk_in (6 * (j + 1) + itA j (setA A (4 * g + 1) v) 26) 126 (by omega), ?_⟩
            rintro _ rfl _ rfl
            rw [nI_1]
            refine ihm (j + 1) _ (by omega) (fun r q hr hq => ?_) (fun r hr => ?_) (q4.st71 (by omega))
            · rw [st1_get]
              by_cases e : r = j ∧ q = itA j (setA A (4 * g + 1) v) 26
              · obtain ⟨rfl, rfl⟩ := e
                rw [if_pos ⟨rfl, rfl⟩, if_neg (by omega), if_pos ⟨by omega, rfl⟩]
              · rw [if_neg (by omega), q1 r q hr hq]
                congr 1
                by_cases e2 : r < j ∧ q = itA r (setA A (4 * g + 1) v) 26
                · rw [if_pos e2, if_pos ⟨by omega, e2.2⟩]
                · rw [if_neg e2, if_neg (fun z => by
                    rcases Nat.lt_or_eq_of_le (Nat.le_of_lt_succ z.1) with y | y
                    · exact e2 ⟨y, z.2⟩
                    · exact e ⟨y, by rw [← y]; exact z.2⟩)]
            · rw [mm1 (by omega)]
              exact q2 r hr
        refine inner 20 0 υ (by omega) (fun r q hr hq => ?_) kk (g4.tr k)
        rw [if_neg (by omega), Nat.add_zero, k63]
        exact g1 r q hr hq
      · rw [k63, g1 r q hr hq]
        congr 1
        show _ = tlA A g v r q + cs _ _ _
        rw [cs_f (fun z => hf z.1), Nat.add_zero]
      · show _ = ftA A g v + cs _ _ _
        rw [cs_f hf, Nat.add_zero]
  have k1 : ∀ m j : Nat, ∀ τ : Mem, j + m = 126 → (∀ x, x < j → τ.1 73 x = 0) → KM σ τ → P36 0 (-4) (nI j) τ := by
    intro m
    induction m with
    | zero =>
      intro j τ hj g1 g4
      apply h36
      refine pk_le 126 j (fun _ => ?_) (fun q => by omega)
      exact k2 21 0 τ (by omega) (fun r k hr hk => by rw [g1 _ (by omega)]; rfl) g4
    | succ m ih =>
      intro j τ hj g1 g4
      apply h36
      refine pk_le 126 j (fun q => by omega) (fun _ => ?_)
      refine ⟨pk_in j 126 (by omega), ?_⟩
      rintro _ rfl _ rfl
      rw [nI_clamp (show j < 2 ^ 31 by omega), nI_1]
      refine ih (j + 1) _ (by omega) (fun x hx => ?_) (g4.st71 (by omega))
      rw [st1_get]
      by_cases e : x = j
      · rw [if_pos ⟨rfl, e⟩]
      · rw [if_neg (by omega)]
        exact g1 x (by omega)
  exact k1 126 0 σ (by omega) (fun x hx => by omega) KM.rf
