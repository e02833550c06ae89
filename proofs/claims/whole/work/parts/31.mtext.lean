/-! the reference reads a text -/
def CE (σ : Mem) (e : ER) : Prop := 1 ≤ e.1 ∧ e.1 ≤ 6 ∧ σ.1 64 15 = nI e.1 ∧ σ.1 64 16 = nI e.2
def CK (σ : Mem) (k : Tok) : Prop := σ.1 64 15 = 0 ∧ σ.1 64 13 = nI k.k ∧ σ.1 64 12 = nI k.s ∧ σ.1 64 11 = nI k.n ∧ (k.k = 2 → σ.1 64 14 = nI k.v)
def CM (σ : Mem) (r : Except ER Tok) : Prop := (∀ e, r = .error e → CE σ e) ∧ (∀ k, r = .ok k → CK σ k)
theorem CM.er {σ : Mem} {e : ER} (h : CE σ e) : CM σ (.error e) := ⟨(fun e' he => by cases he; exact h), (fun k hk => by cases hk)⟩
theorem CM.kk {σ : Mem} {k : Tok} (h : CK σ k) : CM σ (.ok k) := ⟨(fun e' he => by cases he), (fun k hk => by cases hk; exact h)⟩
theorem CE.ne {σ : Mem} {e : ER} (h : CE σ e) : ¬ σ.1 64 15 = 0 := by
  obtain ⟨a, b, c, -⟩ := h
  rw [c]
  exact nI_ne0 (by omega) (by omega)
theorem CE.np {σ : Mem} {e : ER} (h : CE σ e) : ¬ σ.1 64 15 ≤ 0 := by
  obtain ⟨a, b, c, -⟩ := h
  rw [c]
  exact nI_nle (by omega) (by omega)
theorem CE.fr {σ τ : Mem} {e : ER} (h : CE σ e) (h1 : τ.1 64 15 = σ.1 64 15) (h2 : τ.1 64 16 = σ.1 64 16) : CE τ e := ⟨h.1, h.2.1, by rw [h1]; exact h.2.2.1, by rw [h2]; exact h.2.2.2⟩
def KT (σ τ : Mem) : Prop := ∀ a b, ¬ (a = 64 ∧ 11 ≤ b ∧ b ≤ 16) → τ.1 a b = σ.1 a b
theorem KT.rf {σ : Mem} : KT σ σ := fun _ _ _ => rfl
theorem KT.tr {σ τ υ : Mem} (h1 : KT σ τ) (h2 : KT τ υ) : KT σ υ := fun a b q => (h2 a b q).trans (h1 a b q)
theorem TM.kt {σ τ : Mem} {T : Nat} {t : Nat → Nat} (h : TM σ T t) (k : KT σ τ) : TM τ T t := ⟨h.1, by rw [k 64 10 (by omega)]; exact h.2.1, fun i hi => by rw [k 70 i (by omega)]; exact h.2.2 i hi⟩
theorem m_need1 {c : Int32} {σ : Mem} {Q : Mem → Prop} (h : Q σ) : wp_X6_needs 1 c σ Q := ⟨fun _ => h, fun q => absurd q (by decide)⟩
theorem m_needF {s c : Int32} {σ : Mem} {Q : Mem → Prop} (hf : ¬ σ.1 64 15 = 0) (h : Q σ) : wp_X6_needs s c σ Q := ⟨fun _ => h, fun _ => ⟨fun _ => h, fun q => absurd q hf⟩⟩
theorem m_need0 {c s : Nat} {σ : Mem} {Q : Mem → Prop} (hc : 1 ≤ c ∧ c ≤ 6) (hf : σ.1 64 15 = 0) (hs : σ.1 64 12 = nI s) (h : ∀ τ : Mem, CE τ (c, s) → (∀ a b, ¬ (a = 64 ∧ 15 ≤ b ∧ b ≤ 16) → τ.1 a b = σ.1 a b) → Q τ) : wp_X6_needs 0 (nI c) σ Q := by
  refine ⟨fun q => absurd rfl q, fun _ => ?_⟩
  rw [hf]
  refine b00 ?_
  rintro _ rfl _ rfl
  refine h _ ⟨hc.1, hc.2, ?_, ?_⟩ (fun a b q => ?_)
  · rw [mm2 (by omega), mm3]
  · rw [mm3, mm2 (by omega)]; exact hs
  · rw [st1_get, if_neg (by omega), st1_get, if_neg (by omega)]
theorem m_tkE {σ : Mem} {e : ER} {Q : Mem → Prop} (h : CE σ e) (hQ : Q σ) : wp_X6_takes σ Q := by
  intro P8 P82 P140 P201 P236 P260 h8 h82 h140 h201 h236 h260
  exact ⟨fun q => absurd q h.np, fun _ => hQ⟩
theorem m_tkP {σ : Mem} {T p : Nat} {t : Nat → Nat} {Q : Mem → Prop} (hT : TM σ T t) (hf : σ.1 64 15 = 0) (hp : σ.1 64 11 = nI p) (hpT : p ≤ T) (hQ : ∀ τ : Mem, CM τ (tkE t T p) → KT σ τ → Q τ) : wp_X6_takes σ Q := by
  refine m_takes hT hf hp hpT (fun s he τ t1 t2 t3 => hQ τ ?_ t3) (fun k hk τ t1 t2 t3 t4 t5 t6 => hQ τ ?_ t6)
  · rw [he]
    exact CM.er ⟨Nat.le_of_ble_eq_true rfl, Nat.le_of_ble_eq_true rfl, t1, t2⟩
  · rw [hk]
    exact CM.kk ⟨t1, t2, t3, t4, t5⟩
theorem m_tkK {σ : Mem} {T : Nat} {t : Nat → Nat} {k : Tok} {Q : Mem → Prop} (hT : TM σ T t) (hk : CK σ k) (hn : k.n ≤ T) (hQ : ∀ τ : Mem, CM τ (tkE t T k.n) → KT σ τ → Q τ) : wp_X6_takes σ Q := m_tkP hT hk.1 hk.2.2.2.1 hn hQ
theorem m_look {σ : Mem} {T lo hi : Nat} {r : Except ER Tok} {Q : Int32 → Mem → Prop} (hlo : lo ≤ 99) (hhi : hi ≤ 99) (g : GR T r) (hC : CM σ r)
    (h0 : ∀ e : ER, chk r lo hi = .error e → ∀ τ : Mem, CE τ e → KT σ τ → Q 0 τ)
    (h1 : ∀ k : Tok, r = .ok k → chk r lo hi = .ok (k.v, k.n) → k.k = 2 → lo ≤ k.v → k.v ≤ hi → Q (nI k.v) σ) : wp_X6_looked (nI lo) (nI hi) σ Q := by
  intro P21 P25 P49 h21 h25 h49
  have bad : ∀ (e : ER) (τ : Mem), CE τ e → Q 0 τ → P25 τ := by
    intro e τ he hq
    apply h25
    refine ⟨fun _ => ?_, fun q => absurd q he.ne⟩
    apply h49
    exact ⟨fun _ => hq, fun q => absurd q he.ne⟩
  cases r with
  | error e =>
    have hce := hC.1 e rfl
    exact ⟨fun _ => bad e σ hce (h0 e rfl σ hce KT.rf), fun q => absurd q hce.ne⟩
  | ok k =>
    obtain ⟨c1, c2, c3, c4, c5⟩ := hC.2 k rfl
    obtain ⟨g1, g2, g3, g4⟩ := g.2 k rfl
    unfold chk at h0 h1
    simp only at h0 h1
    refine ⟨fun q => absurd c1 q, fun _ => ?_⟩
    rw [c2]
    by_cases e2 : k.k = 2
    · rw [if_pos e2] at h0 h1
      rw [e2]
      refine ⟨fun q => absurd rfl q, fun _ => ?_⟩
      apply h21
      apply m_need1
      apply h25
      refine ⟨fun q => absurd c1 q, fun _ => ?_⟩
      have v9 := g4 e2
      rw [c5 e2]
      refine m_wi (nI lo) (nI hi) rfl rfl (fun z => ?_) (fun z => ?_)
      · rw [wc_n (by omega) (by omega) (by omega)] at z
        rw [if_neg z] at h0
        refine m_need0 (c := 3) (s := k.s) (by omega) c1 c3 (fun τ t1 t2 => ?_)
        apply h49
        exact ⟨fun _ => h0 _ rfl τ t1 (fun a b q => t2 a b (by omega)), fun q => absurd q t1.ne⟩
      · rw [wc_n (by omega) (by omega) (by omega)] at z
        rw [if_pos z] at h1
        apply m_need1
        apply h49
        refine ⟨fun q => absurd c1 q, fun _ => ?_⟩
        rw [c5 e2]
        exact h1 k rfl rfl e2 z.1 z.2
    · rw [if_neg e2] at h0
      refine ⟨fun _ => ?_, fun q => absurd ((nI_eq (b := 2) (by omega) (by omega)).mp q) e2⟩
      apply h21
      refine m_need0 (c := 2) (s := k.s) (by omega) c1 c3 (fun τ t1 t2 => ?_)
      exact bad _ τ t1 (h0 _ rfl τ t1 (fun a b q => t2 a b (by omega)))
theorem m_num {σ : Mem} {T lo hi : Nat} {t : Nat → Nat} {r : Except ER Tok} {Q : Int32 → Mem → Prop} (hlo : lo ≤ 99) (hhi : hi ≤ 99) (hT : TM σ T t) (g : GR T r) (hC : CM σ r)
    (hQ : ∀ τ : Mem, CM τ (nx t T (chk r lo hi)) → KT σ τ → Q (nI (vl (chk r lo hi))) τ) : wp_X6_readNumber (nI lo) (nI hi) σ Q := by
  refine m_look hlo hhi g hC (fun e he τ t1 t2 => ?_) (fun k hk he k2 l1 l2 => ?_)
  · refine m_tkE t1 ?_
    rw [he] at hQ
    exact hQ τ (CM.er t1) t2
  · have gk := g.2 k hk
    refine m_tkK hT (hC.2 k hk) gk.2.1 (fun τ t1 t2 => ?_)
    rw [he] at hQ
    exact hQ τ t1 t2
/-! the state of the reference's reader -/
def flN (S : PS) : Nat := 16 * (p4 S).toNat + 32 * (p5 S).toNat + 64 * (p6 S).toNat
def HI (σ : Mem) (S : PS) : Prop := (pc S = 0 ∧ σ.1 64 8 = -4) ∨ (∃ hm i, i < pc S ∧ pf S i = hm ∧ σ.1 64 8 = nI hm ∧ ∀ j, j < pc S → pf S j ≤ hm)
def PM (σ : Mem) (S : PS) : Prop := σ.1 68 24 = nI (pA S 24) ∧ (∀ h w, h < pA S 24 → w < 4 → σ.1 68 (4 * h + w) = nI (pA S (4 * h + w))) ∧ σ.1 68 31 = nI (pA S 31) ∧ σ.1 68 32 = nI (pA S 32) ∧ (∀ k, 33 ≤ k → k ≤ 36 → σ.1 68 k = 0) ∧ σ.1 64 4 = nI (flN S) ∧ σ.1 64 5 = nI (pp S) ∧ σ.1 64 6 = nI (pc S) ∧ (∀ i, i < pc S → σ.1 69 i = nI (pf S i)) ∧ HI σ S
theorem PM.fr {σ τ : Mem} {S : PS} (h : PM σ S) (hk : ∀ a b, (a = 68 ∨ a = 69 ∨ (a = 64 ∧ 4 ≤ b ∧ b ≤ 8)) → τ.1 a b = σ.1 a b) : PM τ S := by
  obtain ⟨h1, h2, h3, h4, h5, h6, h7, h8, h9, h10⟩ := h
  refine ⟨by rw [hk _ _ (by omega)]; exact h1, fun a w ha hw => by rw [hk _ _ (by omega)]; exact h2 a w ha hw, by rw [hk _ _ (by omega)]; exact h3, by rw [hk _ _ (by omega)]; exact h4, fun k a b => by rw [hk _ _ (by omega)]; exact h5 k a b, by rw [hk _ _ (by omega)]; exact h6, by rw [hk _ _ (by omega)]; exact h7, by rw [hk _ _ (by omega)]; exact h8, fun i hi => by rw [hk _ _ (by omega)]; exact h9 i hi, ?_⟩
  unfold HI
  rw [hk _ _ (by omega)]
  exact h10
def FMk (σ τ : Mem) : Prop := ∀ a b, a ≠ 68 → a ≠ 69 → ¬ (a = 64 ∧ ((4 ≤ b ∧ b ≤ 8) ∨ (11 ≤ b ∧ b ≤ 16))) → τ.1 a b = σ.1 a b
theorem FMk.rf {σ : Mem} : FMk σ σ := fun _ _ _ _ _ => rfl
theorem FMk.tr {σ τ υ : Mem} (h1 : FMk σ τ) (h2 : FMk τ υ) : FMk σ υ := fun a b q1 q2 q3 => (h2 a b q1 q2 q3).trans (h1 a b q1 q2 q3)
theorem KT.fm {σ τ : Mem} (h : KT σ τ) : FMk σ τ := fun a b _ _ q => h a b (by omega)
theorem TM.kp {σ τ : Mem} {T : Nat} {t : Nat → Nat} (h : TM σ T t) (k : FMk σ τ) : TM τ T t := ⟨h.1, by rw [k 64 10 (by omega) (by omega) (by omega)]; exact h.2.1, fun i hi => by rw [k 70 i (by omega) (by omega) (by omega)]; exact h.2.2 i hi⟩
theorem PM.kt {σ τ : Mem} {S : PS} (h : PM σ S) (k : KT σ τ) : PM τ S := h.fr (fun a b q => k a b (by omega))
theorem CM.fr {σ τ : Mem} {r : Except ER Tok} (h : CM σ r) (hk : ∀ b, 11 ≤ b → b ≤ 16 → τ.1 64 b = σ.1 64 b) : CM τ r := by
  refine ⟨fun e he => (h.1 e he).fr (hk 15 (by omega) (by omega)) (hk 16 (by omega) (by omega)), fun k hr => ?_⟩
  obtain ⟨c1, c2, c3, c4, c5⟩ := h.2 k hr
  exact ⟨by rw [hk 15 (by omega) (by omega)]; exact c1, by rw [hk 13 (by omega) (by omega)]; exact c2, by rw [hk 12 (by omega) (by omega)]; exact c3, by rw [hk 11 (by omega) (by omega)]; exact c4, fun q => by rw [hk 14 (by omega) (by omega)]; exact c5 q⟩
/-- an heir's line, behind its name -/
theorem m_rheir {σ : Mem} {T p k : Nat} {t : Nat → Nat} {S : PS} {Q : Mem → Prop} (hT : TM σ T t) (hS : PM σ S) (hpT : p ≤ T) (hC : CM σ (tkE t T p)) (hk : k ≤ 3) (h6 : pA S 24 < 6)
    (hQ : ∀ τ : Mem, CM τ (nx t T (chk (nx t T (chk (nx t T (chk (tkE t T p) 0 20)) 1 20)) 1 30)) → PM τ (addA (pA S) k (vl (chk (tkE t T p) 0 20)) (vl (chk (nx t T (chk (tkE t T p) 0 20)) 1 20)) (vl (chk (nx t T (chk (nx t T (chk (tkE t T p) 0 20)) 1 20)) 1 30)), S.2) → FMk σ τ → Q τ) : wp_X6_readLineOf (nI k) σ Q := by
  have ne : ∀ c : Nat, 4 ≤ c → c ≤ 6 → ¬ nI k = nI c := fun c c1 c2 q => by
    rw [nI_eq (by omega) (by omega)] at q
    omega
  obtain ⟨g1, g2, g3, g4, g5, g6, g7, g8, g9, g10⟩ := hS
  refine ⟨fun q => absurd q (ne 4 (by omega) (by omega)), fun q => absurd q (ne 5 (by omega) (by omega)), fun q => absurd q (ne 6 (by omega) (by omega)), fun _ _ _ => ?_⟩
  have ix : ∀ w : Nat, w < 4 → (4 : Int32) * nI (pA S 24) + nI w = nI (4 * pA S 24 + w) := fun w hw => by
    rw [show (4 : Int32) = nI 4 from rfl, pk_mul, nI_add]
  have i0 : (4 : Int32) * nI (pA S 24) + 0 = nI (4 * pA S 24 + 0) := ix 0 (by omega)
  have i1 : (4 : Int32) * nI (pA S 24) + 1 = nI (4 * pA S 24 + 1) := ix 1 (by omega)
  have i2 : (4 : Int32) * nI (pA S 24) + 2 = nI (4 * pA S 24 + 2) := ix 2 (by omega)
  have i3 : (4 : Int32) * nI (pA S 24) + 3 = nI (4 * pA S 24 + 3) := ix 3 (by omega)
  generalize hn : pA S 24 = n at i0 i1 i2 i3 g1 g2 h6
  rw [tc24, g1, i0, nI_clamp (show 4 * n + 0 < 2 ^ 31 by omega)]
  refine ⟨pk_in (4 * n + 0) 49 (by omega), ?_⟩
  rintro _ rfl
  have e1 : (st1 σ 68 (4 * n + 0) (nI k)).1 68 24 = nI n := by rw [mm2 (by omega)]; exact g1
  have gr1 : GR T (tkE t T p) := gr_tk hpT
  have f1 : FMk σ (st1 σ 68 (4 * n + 0) (nI k)) := fun a b q1 q2 q3 => mm1 q1
  refine m_num (lo := 0) (hi := 20) (by omega) (by omega) (hT.kp f1) gr1 (hC.fr (fun b _ _ => mm1 (by omega))) (fun τ1 a1 a2 => ?_)
  rw [e1, i1, nI_clamp (show 4 * n + 1 < 2 ^ 31 by omega)]
  refine ⟨pk_in (4 * n + 1) 49 (by omega), ?_⟩
  rintro _ rfl
  have e2 : ∀ v, (st1 τ1 68 (4 * n + 1) v).1 68 24 = nI n := fun v => by rw [mm2 (by omega), a2 68 24 (by omega)]; exact e1
  have f2 : ∀ v, FMk σ (st1 τ1 68 (4 * n + 1) v) := fun v => (f1.tr a2.fm).tr (fun a b q1 q2 q3 => mm1 q1)
  have gr2 := gr_nx (t := t) (lo := 0) (hi := 20) gr1
  refine m_num (lo := 1) (hi := 20) (by omega) (by omega) (hT.kp (f2 _)) gr2 (a1.fr (fun b _ _ => mm1 (by omega))) (fun τ2 b1 b2 => ?_)
  rw [e2, i2, nI_clamp (show 4 * n + 2 < 2 ^ 31 by omega)]
  refine ⟨pk_in (4 * n + 2) 49 (by omega), ?_⟩
  rintro _ rfl
  have e3 : ∀ v, (st1 τ2 68 (4 * n + 2) v).1 68 24 = nI n := fun v => by rw [mm2 (by omega), b2 68 24 (by omega)]; exact e2 _
  have f3 : ∀ v, FMk σ (st1 τ2 68 (4 * n + 2) v) := fun v => ((f2 _).tr b2.fm).tr (fun a b q1 q2 q3 => mm1 q1)
  have gr3 := gr_nx (t := t) (lo := 1) (hi := 20) gr2
  refine m_num (lo := 1) (hi := 30) (by omega) (by omega) (hT.kp (f3 _)) gr3 (b1.fr (fun b _ _ => mm1 (by omega))) (fun τ3 c1 c2 => ?_)
  rw [e3, i3, nI_clamp (show 4 * n + 3 < 2 ^ 31 by omega)]
  refine ⟨pk_in (4 * n + 3) 49 (by omega), ?_⟩
  rintro _ rfl
  rw [mm2 (show (24 : Nat) ≠ 4 * n + 3 by omega), c2 68 24 (by omega), e3, nI_1]
  rintro _ rfl
  have r3 : ∀ v b, b ≠ 24 → b ≠ 4 * n + 3 → (st1 (st1 τ3 68 (4 * n + 3) v) 68 24 (nI (n + 1))).1 68 b = τ3.1 68 b := fun v b q1 q2 => by rw [mm2 q1, mm2 q2]
  refine hQ _ (c1.fr (fun b _ _ => by rw [mm1 (by omega), mm1 (by omega)])) ?_ (((f3 _).tr c2.fm).tr (fun a b q1 q2 q3 => by rw [mm1 q1, mm1 q1]))
  have hA6 : pA S 24 < 6 := by omega
  generalize vl (chk (nx t T (chk (nx t T (chk (tkE t T p) 0 20)) 1 20)) 1 30) = v3
  generalize vl (chk (nx t T (chk (tkE t T p) 0 20)) 1 20) = v2 at c2 e3 f3 ⊢
  generalize vl (chk (tkE t T p) 0 20) = v1 at b2 e2 f2 ⊢
  obtain ⟨n0, n1, n2, n3⟩ := add_new (A := pA S) (q := k) (s := v1) (b := v2) (t := v3) hA6
  rw [hn] at n0 n1 n2 n3
  have old : ∀ v b, b ≠ 24 → b ≠ 4 * n + 0 → b ≠ 4 * n + 1 → b ≠ 4 * n + 2 → b ≠ 4 * n + 3 → (st1 (st1 τ3 68 (4 * n + 3) v) 68 24 (nI (n + 1))).1 68 b = σ.1 68 b := fun v b q1 q2 q3 q4 q5 => by
    rw [r3 v b q1 q5, c2 68 b (by omega), mm2 q4, b2 68 b (by omega), mm2 q3, a2 68 b (by omega), mm2 q2]
  refine ⟨?_, fun h w hh hw => ?_, ?_, ?_, fun j j1 j2 => ?_, ?_, ?_, ?_, fun i hi => ?_, ?_⟩
  · rw [mm3]
    show _ = nI (addA (pA S) k v1 v2 v3 24)
    rw [add_n, hn]
  · have hh' : h < n + 1 := by
      have : h < addA (pA S) k v1 v2 v3 24 := hh
      rw [add_n, hn] at this
      exact this
    show _ = nI (addA (pA S) k v1 v2 v3 (4 * h + w))
    by_cases y : h < n
    · rw [old _ _ (by omega) (by omega) (by omega) (by omega) (by omega), add_t hA6 hw (by omega)]
      exact g2 h w y hw
    · have hhn : h = n := by omega
      subst hhn
      rcases (show w = 0 ∨ w = 1 ∨ w = 2 ∨ w = 3 by omega) with rfl | rfl | rfl | rfl
      · rw [r3 _ _ (by omega) (by omega), c2 68 _ (by omega), mm2 (by omega), b2 68 _ (by omega), mm2 (by omega), a2 68 _ (by omega), mm3, Nat.add_zero, n0]
      · rw [r3 _ _ (by omega) (by omega), c2 68 _ (by omega), mm2 (by omega), b2 68 _ (by omega), mm3, n1]
      · rw [r3 _ _ (by omega) (by omega), c2 68 _ (by omega), mm3, n2]
      · rw [mm2 (by omega), mm3, n3]
  · show _ = nI (addA (pA S) k v1 v2 v3 31)
    rw [old _ _ (by omega) (by omega) (by omega) (by omega) (by omega), add_o hA6 (by omega)]
    exact g3
  · show _ = nI (addA (pA S) k v1 v2 v3 32)
    rw [old _ _ (by omega) (by omega) (by omega) (by omega) (by omega), add_o hA6 (by omega)]
    exact g4
  · rw [old _ _ (by omega) (by omega) (by omega) (by omega) (by omega)]
    exact g5 j j1 j2
  · rw [mm1 (by omega), mm1 (by omega), c2 64 4 (by omega), mm1 (by omega), b2 64 4 (by omega), mm1 (by omega), a2 64 4 (by omega), mm1 (by omega)]
    exact g6
  · rw [mm1 (by omega), mm1 (by omega), c2 64 5 (by omega), mm1 (by omega), b2 64 5 (by omega), mm1 (by omega), a2 64 5 (by omega), mm1 (by omega)]
    exact g7
  · rw [mm1 (by omega), mm1 (by omega), c2 64 6 (by omega), mm1 (by omega), b2 64 6 (by omega), mm1 (by omega), a2 64 6 (by omega), mm1 (by omega)]
    exact g8
  · rw [mm1 (by omega), mm1 (by omega), c2 69 i (by omega), mm1 (by omega), b2 69 i (by omega), mm1 (by omega), a2 69 i (by omega), mm1 (by omega)]
    exact g9 i hi
  · unfold HI
    rw [mm1 (by omega), mm1 (by omega), c2 64 8 (by omega), mm1 (by omega), b2 64 8 (by omega), mm1 (by omega), a2 64 8 (by omega), mm1 (by omega)]
    exact g10
theorem m_mlum {σ : Mem} {T p : Nat} {t : Nat → Nat} {S : PS} {Q : Mem → Prop} (hT : TM σ T t) (hS : PM σ S) (hpT : p ≤ T) (hC : CM σ (tkE t T p))
    (hQ : ∀ τ : Mem, CM τ (nx t T (chk (tkE t T p) 0 9)) → PM τ (setA (pA S) 31 (vl (chk (tkE t T p) 0 9)), S.2) → FMk σ τ → Q τ) (h6 : pA S 24 ≤ 6) : wp_X6_readLineOf 5 σ Q := by
  refine ⟨fun q => absurd q (by decide), fun _ => ?_, fun q => absurd q (by decide), fun _ q => absurd rfl q⟩
  refine m_num (lo := 0) (hi := 9) (by omega) (by omega) hT (gr_tk hpT) hC (fun τ t1 t2 => ?_)
  rintro _ rfl
  rw [tc31]
  obtain ⟨g1, g2, g3, g4, g5, g6, g7, g8, g9, g10⟩ := hS.kt t2
  refine hQ _ (t1.fr (fun b _ _ => mm1 (by omega))) ?_ (t2.fm.tr (fun a b q1 q2 q3 => mm1 q1))
  generalize vl (chk (tkE t T p) 0 9) = v1
  refine ⟨?_, fun h w hh hw => ?_, ?_, ?_, fun j j1 j2 => ?_, ?_, ?_, ?_, fun i hi => ?_, ?_⟩
  · show _ = nI (setA (pA S) 31 v1 24)
    rw [mm2 (by omega), setA_ne (by omega)]; exact g1
  · have hh' : h < pA S 24 := by
      have : h < setA (pA S) 31 v1 24 := hh
      rw [setA_ne (by omega)] at this
      exact this
    show _ = nI (setA (pA S) 31 v1 (4 * h + w))
    rw [mm2 (by omega), setA_ne (by omega)]; exact g2 h w hh' hw
  · show _ = nI (setA (pA S) 31 v1 31)
    rw [mm3, setA_eq]
  · show _ = nI (setA (pA S) 31 v1 32)
    rw [mm2 (by omega), setA_ne (by omega)]; exact g4
  · rw [mm2 (by omega)]; exact g5 j j1 j2
  · rw [mm1 (by omega)]; exact g6
  · rw [mm1 (by omega)]; exact g7
  · rw [mm1 (by omega)]; exact g8
  · rw [mm1 (by omega)]; exact g9 i hi
  · unfold HI
    rw [mm1 (by omega)]; exact g10
theorem m_mwrk {σ : Mem} {T p : Nat} {t : Nat → Nat} {S : PS} {Q : Mem → Prop} (hT : TM σ T t) (hS : PM σ S) (hpT : p ≤ T) (hC : CM σ (tkE t T p))
    (hQ : ∀ τ : Mem, CM τ (nx t T (chk (tkE t T p) 0 99)) → PM τ (setA (pA S) 32 (vl (chk (tkE t T p) 0 99)), S.2) → FMk σ τ → Q τ) (h6 : pA S 24 ≤ 6) : wp_X6_readLineOf 6 σ Q := by
  refine ⟨fun q => absurd q (by decide), fun q => absurd q (by decide), fun _ => ?_, fun _ _ q => absurd rfl q⟩
  refine m_num (lo := 0) (hi := 99) (by omega) (by omega) hT (gr_tk hpT) hC (fun τ t1 t2 => ?_)
  rintro _ rfl
  rw [tc32]
  obtain ⟨g1, g2, g3, g4, g5, g6, g7, g8, g9, g10⟩ := hS.kt t2
  refine hQ _ (t1.fr (fun b _ _ => mm1 (by omega))) ?_ (t2.fm.tr (fun a b q1 q2 q3 => mm1 q1))
  generalize vl (chk (tkE t T p) 0 99) = v1
  refine ⟨?_, fun h w hh hw => ?_, ?_, ?_, fun j j1 j2 => ?_, ?_, ?_, ?_, fun i hi => ?_, ?_⟩
  · show _ = nI (setA (pA S) 32 v1 24)
    rw [mm2 (by omega), setA_ne (by omega)]; exact g1
  · have hh' : h < pA S 24 := by
      have : h < setA (pA S) 32 v1 24 := hh
      rw [setA_ne (by omega)] at this
      exact this
    show _ = nI (setA (pA S) 32 v1 (4 * h + w))
    rw [mm2 (by omega), setA_ne (by omega)]; exact g2 h w hh' hw
  · show _ = nI (setA (pA S) 32 v1 31)
    rw [mm2 (by omega), setA_ne (by omega)]; exact g3
  · show _ = nI (setA (pA S) 32 v1 32)
    rw [mm3, setA_eq]
  · rw [mm2 (by omega)]; exact g5 j j1 j2
  · rw [mm1 (by omega)]; exact g6
  · rw [mm1 (by omega)]; exact g7
  · rw [mm1 (by omega)]; exact g8
  · rw [mm1 (by omega)]; exact g9 i hi
  · unfold HI
    rw [mm1 (by omega)]; exact g10
