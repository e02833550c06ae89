/-! the reference: the line, names, a line, the whole text -/
theorem bit0_ok : ∀ p, p < 64 → ∀ v, v < 6 → (((nI p >>> (nI v &&& 31)) &&& (1 : Int32)) = 0 ↔ p / 2 ^ v % 2 = 0) := by decide +kernel
theorem bitor_ok : ∀ p, p < 64 → ∀ v, v < 6 → p / 2 ^ v % 2 = 0 → (nI p ||| ((1 : Int32) <<< (nI v &&& 31))) = nI (p + 2 ^ v) := by decide +kernel
theorem fl_bit : ∀ a b c : Bool, (((nI (16 * a.toNat + 32 * b.toNat + 64 * c.toNat) >>> ((4 : Int32) &&& 31)) &&& (1 : Int32)) = 0 ↔ a = false) ∧ (((nI (16 * a.toNat + 32 * b.toNat + 64 * c.toNat) >>> ((5 : Int32) &&& 31)) &&& (1 : Int32)) = 0 ↔ b = false) ∧ (((nI (16 * a.toNat + 32 * b.toNat + 64 * c.toNat) >>> ((6 : Int32) &&& 31)) &&& (1 : Int32)) = 0 ↔ c = false) := by decide +kernel
theorem fl_or : ∀ a b c : Bool, (nI (16 * a.toNat + 32 * b.toNat + 64 * c.toNat) ||| ((1 : Int32) <<< ((4 : Int32) &&& 31))) = nI (16 * true.toNat + 32 * b.toNat + 64 * c.toNat) ∧ (nI (16 * a.toNat + 32 * b.toNat + 64 * c.toNat) ||| ((1 : Int32) <<< ((5 : Int32) &&& 31))) = nI (16 * a.toNat + 32 * true.toNat + 64 * c.toNat) ∧ (nI (16 * a.toNat + 32 * b.toNat + 64 * c.toNat) ||| ((1 : Int32) <<< ((6 : Int32) &&& 31))) = nI (16 * a.toNat + 32 * b.toNat + 64 * true.toNat) := by decide +kernel
theorem put_pi {S : PS} {v : Nat} (hS : PI S) (hv : v < 6) (e0 : pp S / 2 ^ v % 2 = 0) (h4 : p4 S = true) : PI (putF S v) := by
  obtain ⟨q1, q2, q3, q4⟩ := bt_put (pp S) hS.1 v hv e0
  obtain ⟨g1, g2, g3, g4, g5, g6, g7, g8⟩ := hS
  refine ⟨q1, ?_, fun i hi => ?_, fun w hw hb => ?_, fun i j hi hj e => ?_, fun q => ?_, g7, g8⟩
  · show pc S + 1 = popc (pp S + 2 ^ v)
    omega
  · show (if i = pc S then v else pf S i) < 6 ∧ (pp S + 2 ^ v) / 2 ^ (if i = pc S then v else pf S i) % 2 = 1
    have hi' : i < pc S + 1 := hi
    by_cases y : i = pc S
    · rw [if_pos y]
      exact ⟨by omega, by rw [q4 v (by omega), if_pos rfl]⟩
    · rw [if_neg y]
      have g := g3 i (by omega)
      refine ⟨g.1, ?_⟩
      rw [q4 (pf S i) g.1]
      by_cases y2 : pf S i = v
      · rw [if_pos y2]
      · rw [if_neg y2]; exact g.2
  · have hb' : (pp S + 2 ^ v) / 2 ^ w % 2 = 1 := hb
    rw [q4 w hw] at hb'
    by_cases y : w = v
    · refine ⟨pc S, ?_, ?_⟩
      · show pc S < pc S + 1
        omega
      · show (if pc S = pc S then v else pf S (pc S)) = w
        rw [if_pos rfl, y]
    · rw [if_neg y] at hb'
      obtain ⟨i, hi, e⟩ := g4 w hw hb'
      refine ⟨i, ?_, ?_⟩
      · show i < pc S + 1
        omega
      · show (if i = pc S then v else pf S i) = w
        rw [if_neg (by omega), e]
  · have hi' : i < pc S + 1 := hi
    have hj' : j < pc S + 1 := hj
    have e' : (if i = pc S then v else pf S i) = (if j = pc S then v else pf S j) := e
    by_cases yi : i = pc S
    · by_cases yj : j = pc S
      · omega
      · rw [if_pos yi, if_neg yj] at e'
        have g := g3 j (by omega)
        rw [← e'] at g
        omega
    · by_cases yj : j = pc S
      · rw [if_neg yi, if_pos yj] at e'
        have g := g3 i (by omega)
        rw [e'] at g
        omega
      · rw [if_neg yi, if_neg yj] at e'
        exact g5 i j (by omega) (by omega) e'
  · have q' : p4 S = false := q
    rw [h4] at q'
    cases q'
theorem m_theline {σ : Mem} {T p : Nat} {t : Nat → Nat} {S : PS} {Q : Mem → Prop} (hT : TM σ T t) (hS : PM σ S) (hpT : p ≤ T) (hC : CM σ (tkE t T p)) (hI : PI S) (h0 : pc S = 0) (h4 : p4 S = true)
    (hQ : ∀ (τ : Mem) (r : Except ER Tok), CM τ r → GR T r → ((∃ e, fstE t T 7 S p = .error e ∧ stp r = .error e) ∨ (∃ S' q, fstE t T 7 S p = .ok (S', q) ∧ stp r = .ok q ∧ PM τ S')) → FMk σ τ → Q τ) : wp_X6_readTheLine σ Q := by
  intro P0 P39 P99 P102 hP0 h39 h99 h102
  obtain ⟨W0, hW⟩ : ∃ W0, fstE t T 7 S p = W0 := ⟨_, rfl⟩
  rw [hW] at hQ
  have dead : ∀ (e : ER) (τ : Mem), W0 = .error e → CE τ e → (1 ≤ e.1 ∧ e.1 ≤ 6 ∧ e.2 ≤ T) → FMk σ τ → P102 τ := by
    intro e τ he hc hb hf
    apply h102
    refine m_tkE hc ?_
    apply hP0
    exact ⟨fun _ => hQ τ (.error e) (CM.er hc) ⟨(fun e' he' => by cases he'; exact hb), (fun k hk => by cases hk)⟩ (Or.inl ⟨e, he, rfl⟩) hf, fun q => absurd q hc.ne⟩
  have body : ∀ (m : Nat) (R : PS) (q : Nat) (τ : Mem), pc R + m = 7 → PI R → p4 R = true → PM τ R → q ≤ T → CM τ (tkE t T q) → FMk σ τ → W0 = fstE t T m R q → (¬ τ.1 64 15 = 0 → Q τ) ∧ (τ.1 64 15 = 0 → (¬ τ.1 64 13 = 2 → Q τ) ∧ (τ.1 64 13 = 2 → wp_X6_looked 0 5 τ (fun r17 σ16 => (¬ (((σ16.1 64 5) >>> (r17 &&& 31)) &&& (1 : Int32)) = 0 → P39 r17 (0 : Int32) σ16) ∧ ((((σ16.1 64 5) >>> (r17 &&& 31)) &&& (1 : Int32)) = 0 → P39 r17 (1 : Int32) σ16)))) := by
    intro m
    induction m with
    | zero =>
      intro R q τ hm hR
      have := popc_le (pp R)
      have := hR.2.1
      omega
    | succ m ih =>
      intro R q τ hm hR h4R hP hqT hCt hF e
      unfold fstE at e
      have gq : GR T (tkE t T q) := gr_tk hqT
      have gq0 := gq
      have hTt := hT.kp hF
      obtain ⟨r, hr⟩ : ∃ r, tkE t T q = r := ⟨_, rfl⟩
      rw [hr] at e hCt gq
      cases r with
      | error er =>
        have hce := hCt.1 er rfl
        refine ⟨fun _ => hQ τ _ (CM.er hce) gq (Or.inl ⟨er, e, rfl⟩) hF, fun z => absurd z hce.ne⟩
      | ok k =>
        simp only at e
        have hck := hCt.2 k rfl
        obtain ⟨c1, c2, c3, c4, c5⟩ := hck
        obtain ⟨k1, k2, k3, k4⟩ := gq.2 k rfl
        refine ⟨fun z => absurd c1 z, fun _ => ?_⟩
        by_cases e2 : k.k = 2
        · rw [if_neg (by omega)] at e
          refine ⟨fun z => absurd (by rw [c2, e2]; rfl) z, fun _ => ?_⟩
          have hpp := hR.1
          refine m_look (lo := 0) (hi := 5) (T := T) (r := .ok k) (by omega) (by omega) gq hCt (fun er he υ u1 u2 => ?_) (fun k' hk' he _ l1 l2 => ?_)
          · rw [he] at e
            have hb := chk_er gq he
            have fin : ∀ s0, P39 0 s0 υ := by
              intro s0
              apply h39
              refine m_needF u1.ne ?_
              exact ⟨fun _ => dead er υ e u1 hb (hF.tr u2.fm), fun z => absurd z u1.ne⟩
            exact ⟨fun _ => fin 0, fun _ => fin 1⟩
          · cases hk'
            rw [he] at e
            simp only at e
            have h5 := hP.2.2.2.2.2.2.1
            have h6 := hP.2.2.2.2.2.2.2.1
            rw [h5, bit0_ok (pp R) hpp k.v (by omega)]
            by_cases z : pp R / 2 ^ k.v % 2 = 0
            · rw [if_pos z] at e
              refine ⟨fun y => absurd z y, fun _ => ?_⟩
              obtain ⟨q1, q2, q3, q4⟩ := bt_put (pp R) hpp k.v (by omega) z
              have hpc := hR.2.1
              apply h39
              apply m_need1
              refine ⟨fun y => absurd c1 y, fun _ => ?_⟩
              rw [h5, bitor_ok (pp R) hpp k.v (by omega) z]
              rintro _ rfl
              rw [mm2 (show (6 : Nat) ≠ 5 by omega), h6, nI_clamp (show pc R < 2 ^ 31 by omega)]
              refine ⟨pk_in (pc R) 6 (by omega), ?_⟩
              rintro _ rfl
              rw [mm1 (show (64 : Nat) ≠ 69 by omega), mm2 (show (6 : Nat) ≠ 5 by omega), h6, nI_1]
              rintro _ rfl
              have fin : ∀ hm : Int32, (∃ w i, i < pc R + 1 ∧ (if i = pc R then k.v else pf R i) = w ∧ hm = nI w ∧ ∀ j, j < pc R + 1 → (if j = pc R then k.v else pf R j) ≤ w) → P99 hm (st1 (st1 (st1 τ 64 5 (nI (pp R + 2 ^ k.v))) 69 (pc R) (nI k.v)) 64 6 (nI (pc R + 1))) := by
                intro hm hhm
                apply h99
                rintro _ rfl
                apply h102
                have ff : FMk σ (st1 (st1 (st1 (st1 τ 64 5 (nI (pp R + 2 ^ k.v))) 69 (pc R) (nI k.v)) 64 6 (nI (pc R + 1))) 64 8 hm) := hF.tr (fun a b y1 y2 y3 => by
                  rw [st1_get, if_neg (by omega), st1_get, if_neg (by omega), st1_get, if_neg (by omega), st1_get, if_neg (by omega)])
                refine m_tkP (p := k.n) (hT.kp ff) ?_ ?_ k2 (fun υ u1 u2 => ?_)
                · rw [mm2 (by omega), mm2 (by omega), mm1 (by omega), mm2 (by omega)]; exact c1
                · rw [mm2 (by omega), mm2 (by omega), mm1 (by omega), mm2 (by omega)]; exact c4
                apply hP0
                obtain ⟨d1, d2, d3, d4, d5, d6, d7, d8, d9, d10⟩ := hP
                refine ih (putF R k.v) k.n υ (by show pc R + 1 + m = 7; omega) (put_pi hR (by omega) z h4R) h4R ?_ k2 u1 (ff.tr u2.fm) e
                refine ⟨?_, fun h w hh hw => ?_, ?_, ?_, fun j j1 j2 => ?_, ?_, ?_, ?_, fun i hi => ?_, ?_⟩
                · rw [u2 _ _ (by omega), mm1 (by omega), mm1 (by omega), mm1 (by omega), mm1 (by omega)]; exact d1
                · rw [u2 _ _ (by omega), mm1 (by omega), mm1 (by omega), mm1 (by omega), mm1 (by omega)]; exact d2 h w hh hw
                · rw [u2 _ _ (by omega), mm1 (by omega), mm1 (by omega), mm1 (by omega), mm1 (by omega)]; exact d3
                · rw [u2 _ _ (by omega), mm1 (by omega), mm1 (by omega), mm1 (by omega), mm1 (by omega)]; exact d4
                · rw [u2 _ _ (by omega), mm1 (by omega), mm1 (by omega), mm1 (by omega), mm1 (by omega)]; exact d5 j j1 j2
                · rw [u2 _ _ (by omega), mm2 (by omega), mm2 (by omega), mm1 (by omega), mm2 (by omega)]; exact d6
                · rw [u2 _ _ (by omega), mm2 (by omega), mm2 (by omega), mm1 (by omega), mm3]; rfl
                · rw [u2 _ _ (by omega), mm2 (by omega), mm3]; rfl
                · rw [u2 _ _ (by omega), mm1 (by omega), mm1 (by omega)]
                  show _ = nI (if i = pc R then k.v else pf R i)
                  have hi' : i < pc R + 1 := hi
                  by_cases y : i = pc R
                  · rw [if_pos y, y, mm3]
                  · rw [if_neg y, mm2 y, mm1 (by omega)]
                    exact d9 i (by omega)
                · obtain ⟨w, i, w1, w2, w3, w4⟩ := hhm
                  refine Or.inr ⟨w, i, w1, w2, ?_, w4⟩
                  rw [u2 _ _ (by omega), mm3]
                  exact w3
              rw [mm2 (show (8 : Nat) ≠ 6 by omega), mm1 (show (64 : Nat) ≠ 69 by omega), mm2 (show (8 : Nat) ≠ 5 by omega)]
              rcases hP.2.2.2.2.2.2.2.2.2 with ⟨z0, z8⟩ | ⟨hm, i, i1, i2, i3, i4⟩
              · rw [z8]
                refine ⟨fun y => ?_, fun _ => fin _ ⟨k.v, pc R, by omega, if_pos rfl, rfl, fun j hj => ?_⟩⟩
                · have := nI_pos' (n := k.v) (by omega)
                  exact absurd (Int32.le_trans this y) (by decide)
                · rw [if_pos (by omega)]
                  exact Nat.le_refl _
              · have hm6 := (hR.2.2.1 i i1).1
                rw [i3]
                refine pk_le k.v hm (fun y => fin _ ⟨hm, i, by omega, by rw [if_neg (by omega)]; exact i2, rfl, fun j hj => ?_⟩) (fun y => fin _ ⟨k.v, pc R, by omega, if_pos rfl, rfl, fun j hj => ?_⟩) rfl rfl (by omega) (by omega)
                · by_cases y2 : j = pc R
                  · rw [if_pos y2]; exact y
                  · rw [if_neg y2]; exact i4 j (by omega)
                · by_cases y2 : j = pc R
                  · rw [if_pos y2]; exact Nat.le_refl _
                  · rw [if_neg y2]
                    have := i4 j (by omega)
                    omega
            · rw [if_neg z] at e
              refine ⟨fun _ => ?_, fun y => absurd y z⟩
              apply h39
              refine m_need0 (c := 4) (s := k.s) (by omega) c1 c3 (fun υ u1 u2 => ?_)
              exact ⟨fun _ => dead _ υ e u1 ⟨Nat.le_of_ble_eq_true rfl, Nat.le_of_ble_eq_true rfl, k1⟩ (hF.tr (fun a b _ _ y => u2 a b (by omega))), fun y => absurd y u1.ne⟩
        · refine ⟨fun _ => ?_, fun z => absurd ((nI_eq (b := 2) (by omega) (by omega)).mp (by rw [← c2]; exact z)) e2⟩
          by_cases e3 : k.k = 3
          · rw [if_pos e3] at e
            refine hQ τ (.ok k) hCt gq (Or.inr ⟨R, k.n, e, ?_, hP⟩) hF
            unfold stp
            simp only
            rw [if_pos e3]
          · rw [if_neg e3] at e
            have hc : chk (.ok k) 0 5 = .error (2, k.s) := by
              unfold chk
              simp only
              rw [if_neg e2]
            rw [hc] at e
            refine hQ τ (.ok k) hCt gq (Or.inl ⟨(2, k.s), e, ?_⟩) hF
            unfold stp
            simp only
            rw [if_neg e3]
  exact body 7 S p σ (by omega) hI h4 hS hpT hC FMk.rf hW.symm
