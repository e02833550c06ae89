/-! the whole text -/
theorem tk_c {t : Nat → Nat} {T p lo hi : Nat} {a : Nat × Nat} (hp : p ≤ T) (h : chk (tkE t T p) lo hi = .ok a) : lo ≤ a.1 ∧ a.1 ≤ hi ∧ p ≤ a.2 ∧ a.2 ≤ T := by
  obtain ⟨k, hk, h1, h2, h3, rfl⟩ := chk_ok h
  obtain ⟨a1, a2, a3, -⟩ := tk_ok hp hk
  exact ⟨h2, h3, by show p ≤ k.n; omega, a3⟩
theorem tk_s {t : Nat → Nat} {T p q : Nat} (hp : p ≤ T) (h : stp (tkE t T p) = .ok q) : p ≤ q ∧ q ≤ T := by
  obtain ⟨k, hk, h1, rfl⟩ := stp_ok h
  obtain ⟨a1, a2, a3, -⟩ := tk_ok hp hk
  exact ⟨by omega, a3⟩
theorem chk_nx {t : Nat → Nat} {T lo hi : Nat} {c : Except ER (Nat × Nat)} {a : Nat × Nat} (h : chk (nx t T c) lo hi = .ok a) : ∃ b, c = .ok b ∧ chk (tkE t T b.2) lo hi = .ok a := by
  cases c with
  | error e => cases h
  | ok b => exact ⟨b, rfl, h⟩
theorem stp_nx {t : Nat → Nat} {T q : Nat} {c : Except ER (Nat × Nat)} (h : stp (nx t T c) = .ok q) : ∃ b, c = .ok b ∧ stp (tkE t T b.2) = .ok q := by
  cases c with
  | error e => cases h
  | ok b => exact ⟨b, rfl, h⟩
def PI (S : PS) : Prop := pp S < 64 ∧ pc S = popc (pp S) ∧ (∀ i, i < pc S → pf S i < 6 ∧ pp S / 2 ^ pf S i % 2 = 1) ∧ (∀ v, v < 6 → pp S / 2 ^ v % 2 = 1 → ∃ i, i < pc S ∧ pf S i = v) ∧ (∀ i j, i < pc S → j < pc S → pf S i = pf S j → i = j) ∧ (p4 S = false → pc S = 0 ∧ pp S = 0) ∧ WF (pA S) ∧ (∀ k, 33 ≤ k → k ≤ 36 → pA S k = 0)
def S0 : PS := (fun _ => 0, false, false, false, 0, 0, fun _ => 0)
theorem wf0 : WF (fun _ => 0) := ⟨Nat.zero_le 6, fun h q => absurd q (Nat.not_lt_zero h), fun h q => absurd q (Nat.not_lt_zero h), fun i j q => absurd q (Nat.not_lt_zero i), fun h q => absurd q (Nat.not_lt_zero h), Nat.zero_le 9, Nat.zero_le 999⟩
theorem pi0 : PI S0 := ⟨by decide, rfl, fun i q => absurd q (Nat.not_lt_zero i), fun v _ q => by
    have : (0 : Nat) / 2 ^ v % 2 = 1 := q
    rw [Nat.zero_div] at this
    omega, fun i j q => absurd q (Nat.not_lt_zero i), fun _ => ⟨rfl, rfl⟩, wf0, fun _ _ _ => rfl⟩
theorem fst_ok {t : Nat → Nat} {T : Nat} : ∀ (m : Nat) (S : PS) (p : Nat) (S' : PS) (q : Nat), PI S → p4 S = true → p ≤ T → fstE t T m S p = .ok (S', q) → PI S' ∧ p ≤ q ∧ q ≤ T := by
  intro m
  induction m with
  | zero => intro S p S' q _ _ _ h; cases h
  | succ m ih =>
    intro S p S' q hS h4 hp h
    unfold fstE at h
    cases hk : tkE t T p with
    | error e => rw [hk] at h; cases h
    | ok k =>
      rw [hk] at h
      simp only at h
      obtain ⟨a1, a2, a3, a4, a5, a6, a7⟩ := tk_ok hp hk
      by_cases e3 : k.k = 3
      · rw [if_pos e3] at h
        simp only [Except.ok.injEq, Prod.mk.injEq] at h
        obtain ⟨rfl, rfl⟩ := h
        exact ⟨hS, by omega, a3⟩
      · rw [if_neg e3] at h
        cases hc : chk (.ok k) 0 5 with
        | error e => rw [hc] at h; cases h
        | ok a =>
          rw [hc] at h
          simp only at h
          obtain ⟨k', hk', b1, b2, b3, rfl⟩ := chk_ok hc
          cases hk'
          simp only at h
          by_cases e0 : pp S / 2 ^ k.v % 2 = 0
          · rw [if_pos e0] at h
            obtain ⟨q1, q2, q3, q4⟩ := bt_put (pp S) hS.1 k.v (by omega) e0
            obtain ⟨g1, g2, g3, g4, g5, g6, g7, g8⟩ := hS
            have hn : PI (putF S k.v) := by
              refine ⟨q1, ?_, fun i hi => ?_, fun w hw hb => ?_, fun i j hi hj e => ?_, fun q => ?_, g7, g8⟩
              · show pc S + 1 = popc (pp S + 2 ^ k.v)
                omega
              · show (if i = pc S then k.v else pf S i) < 6 ∧ (pp S + 2 ^ k.v) / 2 ^ (if i = pc S then k.v else pf S i) % 2 = 1
                have hi' : i < pc S + 1 := hi
                by_cases y : i = pc S
                · rw [if_pos y]
                  exact ⟨by omega, by rw [q4 k.v (by omega), if_pos rfl]⟩
                · rw [if_neg y]
                  have g := g3 i (by omega)
                  refine ⟨g.1, ?_⟩
                  rw [q4 (pf S i) g.1]
                  by_cases y2 : pf S i = k.v
                  · rw [if_pos y2]
                  · rw [if_neg y2]; exact g.2
              · have hb' : (pp S + 2 ^ k.v) / 2 ^ w % 2 = 1 := hb
                rw [q4 w hw] at hb'
                by_cases y : w = k.v
                · refine ⟨pc S, ?_, ?_⟩
                  · show pc S < pc S + 1
                    omega
                  · show (if pc S = pc S then k.v else pf S (pc S)) = w
                    rw [if_pos rfl, y]
                · rw [if_neg y] at hb'
                  obtain ⟨i, hi, e⟩ := g4 w hw hb'
                  refine ⟨i, ?_, ?_⟩
                  · show i < pc S + 1
                    omega
                  · show (if i = pc S then k.v else pf S i) = w
                    rw [if_neg (by omega), e]
              · have hi' : i < pc S + 1 := hi
                have hj' : j < pc S + 1 := hj
                have e' : (if i = pc S then k.v else pf S i) = (if j = pc S then k.v else pf S j) := e
                by_cases yi : i = pc S
                · by_cases yj : j = pc S
                  · omega
                  · rw [if_pos yi, if_neg yj] at e'
                    have g := g3 j (by omega)
                    rw [← e'] at g
                    omega
                · by_cases yj : j = pc S
                  · rw [if_neg yi, if_pos yj] at e'
                    have g := g3 i (by omega)
                    rw [e'] at g
                    omega
                  · rw [if_neg yi, if_neg yj] at e'
                    exact g5 i j (by omega) (by omega) e'
              · have q' : p4 S = false := q
                rw [h4] at q'
                cases q'
            obtain ⟨r1, r2, r3⟩ := ih (putF S k.v) k.n S' q hn h4 a3 h
            exact ⟨r1, by omega, r3⟩
          · rw [if_neg e0] at h
            cases h
theorem rl_ok {t : Nat → Nat} {T : Nat} {S S' : PS} {k : Tok} {q : Nat} (hS : PI S) (hn : k.n ≤ T) (h : rlE t T S k = .ok (S', q)) : PI S' ∧ k.n ≤ q ∧ q ≤ T := by
  unfold rlE at h
  obtain ⟨g1, g2, g3, g4, g5, g6, g7, g8⟩ := hS
  by_cases e1 : k.k = 1
  · rw [if_pos e1] at h
    by_cases c1 : cdE t k.s k.n < 4
    · rw [if_pos c1] at h
      unfold heirE at h
      by_cases h6 : pA S 24 < 6
      · rw [if_pos h6] at h
        cases hst : stp (nx t T (chk (nx t T (chk (nx t T (chk (tkE t T k.n) 0 20)) 1 20)) 1 30)) with
        | error e => rw [hst] at h; cases h
        | ok q' =>
          rw [hst] at h
          simp only [Except.ok.injEq, Prod.mk.injEq] at h
          obtain ⟨rfl, rfl⟩ := h
          obtain ⟨a3, hc3, hs⟩ := stp_nx hst
          obtain ⟨a2, hc2, hc3'⟩ := chk_nx hc3
          obtain ⟨a1, hc1, hc2'⟩ := chk_nx hc2
          obtain ⟨x1, x2, x3, x4⟩ := tk_c hn hc1
          obtain ⟨y1, y2, y3, y4⟩ := tk_c x4 hc2'
          obtain ⟨z1, z2, z3, z4⟩ := tk_c y4 hc3'
          obtain ⟨w1, w2⟩ := tk_s z4 hs
          rw [hc3, hc2, hc1]
          simp only [vl]
          refine ⟨⟨g1, g2, g3, g4, g5, g6, ?_, fun j j1 j2 => ?_⟩, by omega, w2⟩
          · exact WF.add g7 h6 (by omega) (by omega) ⟨by omega, by omega⟩ ⟨by omega, by omega⟩
          · show addA (pA S) _ _ _ _ j = 0
            rw [add_o h6 (by omega)]
            exact g8 j j1 j2
      · rw [if_neg h6] at h
        cases h
    · rw [if_neg c1] at h
      by_cases c4 : cdE t k.s k.n = 4
      · rw [if_pos c4] at h
        unfold linE at h
        cases hb : p4 S with
        | true => rw [hb, if_pos rfl] at h; cases h
        | false =>
          rw [hb] at h
          rw [if_neg (by decide)] at h
          exact fst_ok 7 (pA S, true, p5 S, p6 S, S.2.2.2.2) k.n S' q ⟨g1, g2, g3, g4, g5, (fun q => by cases q), g7, g8⟩ rfl hn h
      · rw [if_neg c4] at h
        by_cases c5 : cdE t k.s k.n = 5
        · rw [if_pos c5] at h
          unfold lumE at h
          cases hb : p5 S with
          | true => rw [hb, if_pos rfl] at h; cases h
          | false =>
            rw [hb] at h
            rw [if_neg (by decide)] at h
            cases hst : stp (nx t T (chk (tkE t T k.n) 0 9)) with
            | error e => rw [hst] at h; cases h
            | ok q' =>
              rw [hst] at h
              simp only [Except.ok.injEq, Prod.mk.injEq] at h
              obtain ⟨rfl, rfl⟩ := h
              obtain ⟨a1, hc1, hs⟩ := stp_nx hst
              obtain ⟨x1, x2, x3, x4⟩ := tk_c hn hc1
              obtain ⟨w1, w2⟩ := tk_s x4 hs
              rw [hc1]
              simp only [vl]
              refine ⟨⟨g1, g2, g3, g4, g5, g6, g7.set31 x2, fun j j1 j2 => ?_⟩, by omega, w2⟩
              show setA (pA S) 31 _ j = 0
              rw [setA_ne (by omega)]
              exact g8 j j1 j2
        · rw [if_neg c5] at h
          by_cases c6 : cdE t k.s k.n = 6
          · rw [if_pos c6] at h
            unfold wrkE at h
            cases hb : p6 S with
            | true => rw [hb, if_pos rfl] at h; cases h
            | false =>
              rw [hb] at h
              rw [if_neg (by decide)] at h
              cases hst : stp (nx t T (chk (tkE t T k.n) 0 99)) with
              | error e => rw [hst] at h; cases h
              | ok q' =>
                rw [hst] at h
                simp only [Except.ok.injEq, Prod.mk.injEq] at h
                obtain ⟨rfl, rfl⟩ := h
                obtain ⟨a1, hc1, hs⟩ := stp_nx hst
                obtain ⟨x1, x2, x3, x4⟩ := tk_c hn hc1
                obtain ⟨w1, w2⟩ := tk_s x4 hs
                rw [hc1]
                simp only [vl]
                refine ⟨⟨g1, g2, g3, g4, g5, g6, g7.set32 (by omega), fun j j1 j2 => ?_⟩, by omega, w2⟩
                show setA (pA S) 32 _ j = 0
                rw [setA_ne (by omega)]
                exact g8 j j1 j2
          · rw [if_neg c6] at h
            cases h
  · rw [if_neg e1] at h
    cases h
def okE (T : Nat) (e : ER) : Prop := 1 ≤ e.1 ∧ e.1 ≤ 6 ∧ e.2 ≤ T
theorem fst_er {t : Nat → Nat} {T : Nat} : ∀ (m : Nat) (S : PS) (p : Nat) (e : ER), p ≤ T → fstE t T m S p = .error e → okE T e := by
  intro m
  induction m with
  | zero =>
    intro S p e hp h
    cases h
    exact ⟨Nat.le_of_ble_eq_true rfl, Nat.le_of_ble_eq_true rfl, hp⟩
  | succ m ih =>
    intro S p e hp h
    unfold fstE at h
    have g := gr_tk (t := t) hp
    cases hk : tkE t T p with
    | error e' =>
      rw [hk] at h g
      cases h
      exact g.1 _ rfl
    | ok k =>
      rw [hk] at h g
      simp only at h
      obtain ⟨a1, a2, -⟩ := g.2 k rfl
      by_cases e3 : k.k = 3
      · rw [if_pos e3] at h
        cases h
      · rw [if_neg e3] at h
        cases hc : chk (.ok k) 0 5 with
        | error e' =>
          rw [hc] at h
          cases h
          exact chk_er g hc
        | ok a =>
          rw [hc] at h
          simp only at h
          obtain ⟨k', hk', b1, b2, b3, rfl⟩ := chk_ok hc
          cases hk'
          simp only at h
          by_cases e0 : pp S / 2 ^ k.v % 2 = 0
          · rw [if_pos e0] at h
            exact ih _ _ e a2 h
          · rw [if_neg e0] at h
            cases h
            exact ⟨Nat.le_of_ble_eq_true rfl, Nat.le_of_ble_eq_true rfl, a1⟩
theorem rl_er {t : Nat → Nat} {T : Nat} {S : PS} {k : Tok} {e : ER} (hs : k.s ≤ T) (hn : k.n ≤ T) (h : rlE t T S k = .error e) : okE T e := by
  unfold rlE at h
  by_cases e1 : k.k = 1
  · rw [if_pos e1] at h
    by_cases c1 : cdE t k.s k.n < 4
    · rw [if_pos c1] at h
      unfold heirE at h
      by_cases h6 : pA S 24 < 6
      · rw [if_pos h6] at h
        cases hst : stp (nx t T (chk (nx t T (chk (nx t T (chk (tkE t T k.n) 0 20)) 1 20)) 1 30)) with
        | error e' =>
          rw [hst] at h
          cases h
          exact stp_er (gr_nx (gr_nx (gr_nx (gr_tk hn)))) hst
        | ok q' => rw [hst] at h; cases h
      · rw [if_neg h6] at h
        cases h
        exact ⟨Nat.le_of_ble_eq_true rfl, Nat.le_of_ble_eq_true rfl, hs⟩
    · rw [if_neg c1] at h
      by_cases c4 : cdE t k.s k.n = 4
      · rw [if_pos c4] at h
        unfold linE at h
        cases hb : p4 S with
        | true =>
          rw [hb] at h
          rw [if_pos rfl] at h
          cases h
          exact ⟨Nat.le_of_ble_eq_true rfl, Nat.le_of_ble_eq_true rfl, hs⟩
        | false =>
          rw [hb] at h
          rw [if_neg (by decide)] at h
          exact fst_er 7 (pA S, true, p5 S, p6 S, S.2.2.2.2) k.n e hn h
      · rw [if_neg c4] at h
        by_cases c5 : cdE t k.s k.n = 5
        · rw [if_pos c5] at h
          unfold lumE at h
          cases hb : p5 S with
          | true =>
            rw [hb] at h
            rw [if_pos rfl] at h
            cases h
            exact ⟨Nat.le_of_ble_eq_true rfl, Nat.le_of_ble_eq_true rfl, hs⟩
          | false =>
            rw [hb] at h
            rw [if_neg (by decide)] at h
            cases hst : stp (nx t T (chk (tkE t T k.n) 0 9)) with
            | error e' =>
              rw [hst] at h
              cases h
              exact stp_er (gr_nx (gr_tk hn)) hst
            | ok q' => rw [hst] at h; cases h
        · rw [if_neg c5] at h
          by_cases c6 : cdE t k.s k.n = 6
          · rw [if_pos c6] at h
            unfold wrkE at h
            cases hb : p6 S with
            | true =>
              rw [hb] at h
              rw [if_pos rfl] at h
              cases h
              exact ⟨Nat.le_of_ble_eq_true rfl, Nat.le_of_ble_eq_true rfl, hs⟩
            | false =>
              rw [hb] at h
              rw [if_neg (by decide)] at h
              cases hst : stp (nx t T (chk (tkE t T k.n) 0 99)) with
              | error e' =>
                rw [hst] at h
                cases h
                exact stp_er (gr_nx (gr_tk hn)) hst
              | ok q' => rw [hst] at h; cases h
          · rw [if_neg c6] at h
            cases h
            exact ⟨Nat.le_of_ble_eq_true rfl, Nat.le_of_ble_eq_true rfl, hs⟩
  · rw [if_neg e1] at h
    cases h
    exact ⟨Nat.le_of_ble_eq_true rfl, Nat.le_of_ble_eq_true rfl, hs⟩
noncomputable def allE (t : Nat → Nat) (T : Nat) : Nat → PS → Nat → Nat → Except ER (PS × Nat)
  | 0, S, l, _ => .ok (S, l)
  | m + 1, S, l, p => match tkE t T p with
    | .error e => .error e
    | .ok k => if k.k = 0 then .ok (S, l) else (match rlE t T S k with
      | .error e => .error e
      | .ok r => allE t T m r.1 (l + 1) r.2)
def fits6 (S : PS) : Prop := ∀ i, i < pc S → pf S i < pA S 24
noncomputable def finE (t : Nat → Nat) (T : Nat) : Except ER (PS × Nat) := match allE t T (T + 1) S0 0 0 with
  | .error e => .error e
  | .ok r => cs (fits6 r.1) (.ok r) (.error (6, T))
theorem all_ok {t : Nat → Nat} {T : Nat} : ∀ (m : Nat) (S : PS) (l p : Nat) (R : PS) (n : Nat), PI S → p ≤ T → allE t T m S l p = .ok (R, n) → PI R ∧ n ≤ l + m := by
  intro m
  induction m with
  | zero =>
    intro S l p R n hS hp h
    cases h
    exact ⟨hS, by omega⟩
  | succ m ih =>
    intro S l p R n hS hp h
    unfold allE at h
    cases hk : tkE t T p with
    | error e => rw [hk] at h; cases h
    | ok k =>
      rw [hk] at h
      simp only at h
      obtain ⟨a1, a2, a3, -⟩ := tk_ok hp hk
      by_cases e0 : k.k = 0
      · rw [if_pos e0] at h
        cases h
        exact ⟨hS, by omega⟩
      · rw [if_neg e0] at h
        cases hr : rlE t T S k with
        | error e => rw [hr] at h; cases h
        | ok r =>
          rw [hr] at h
          obtain ⟨b1, b2, b3⟩ := rl_ok (S' := r.1) (q := r.2) hS a3 hr
          obtain ⟨c1, c2⟩ := ih r.1 (l + 1) r.2 R n b1 b3 h
          exact ⟨c1, by omega⟩
theorem all_er {t : Nat → Nat} {T : Nat} : ∀ (m : Nat) (S : PS) (l p : Nat) (e : ER), PI S → p ≤ T → allE t T m S l p = .error e → okE T e := by
  intro m
  induction m with
  | zero => intro S l p e hS hp h; cases h
  | succ m ih =>
    intro S l p e hS hp h
    unfold allE at h
    have g := gr_tk (t := t) hp
    cases hk : tkE t T p with
    | error e' =>
      rw [hk] at h g
      cases h
      exact g.1 _ rfl
    | ok k =>
      rw [hk] at h
      simp only at h
      obtain ⟨a1, a2, a3, -⟩ := tk_ok hp hk
      by_cases e0 : k.k = 0
      · rw [if_pos e0] at h
        cases h
      · rw [if_neg e0] at h
        cases hr : rlE t T S k with
        | error e' =>
          rw [hr] at h
          cases h
          exact rl_er (by omega) a3 hr
        | ok r =>
          rw [hr] at h
          obtain ⟨b1, b2, b3⟩ := rl_ok (S' := r.1) (q := r.2) hS a3 hr
          exact ih r.1 (l + 1) r.2 e b1 b3 h
theorem fin_ok {t : Nat → Nat} {T n : Nat} {R : PS} (h : finE t T = .ok (R, n)) : PI R ∧ n ≤ T + 1 ∧ fits6 R := by
  unfold finE at h
  cases ha : allE t T (T + 1) S0 0 0 with
  | error e => rw [ha] at h; cases h
  | ok r =>
    rw [ha] at h
    simp only at h
    by_cases hf : fits6 r.1
    · rw [cs_t hf] at h
      cases h
      obtain ⟨a, b⟩ := all_ok (T + 1) S0 0 0 R n pi0 (by omega) ha
      exact ⟨a, by omega, hf⟩
    · rw [cs_f hf] at h
      cases h
theorem fin_er {t : Nat → Nat} {T : Nat} {e : ER} (h : finE t T = .error e) : okE T e := by
  unfold finE at h
  cases ha : allE t T (T + 1) S0 0 0 with
  | error e' =>
    rw [ha] at h
    cases h
    exact all_er (T + 1) S0 0 0 _ pi0 (by omega) ha
  | ok r =>
    rw [ha] at h
    simp only at h
    by_cases hf : fits6 r.1
    · rw [cs_t hf] at h
      cases h
    · rw [cs_f hf] at h
      cases h
      exact ⟨Nat.le_of_ble_eq_true rfl, Nat.le_of_ble_eq_true rfl, Nat.le_refl T⟩
/-! the line that a text leaves -/
def zc (p : Nat) : Nat → Nat
  | 0 => 0
  | h + 1 => zc p h + (if p / 2 ^ h % 2 = 0 then 1 else 0)
def zr (p j : Nat) : Nat := if p / 2 ^ 0 % 2 = 0 ∧ zc p 0 = j then 0 else if p / 2 ^ 1 % 2 = 0 ∧ zc p 1 = j then 1 else if p / 2 ^ 2 % 2 = 0 ∧ zc p 2 = j then 2 else if p / 2 ^ 3 % 2 = 0 ∧ zc p 3 = j then 3 else if p / 2 ^ 4 % 2 = 0 ∧ zc p 4 = j then 4 else 5
theorem zr1 : ∀ n, n < 7 → ∀ p, p < 64 → p < 2 ^ n → popc p + zc p n = n := by decide +kernel
theorem zr2 : ∀ n, n < 7 → ∀ p, p < 64 → ∀ j, j < 6 → ¬ (p < 2 ^ n ∧ popc p + j < n) ∨ (zr p j < n ∧ p / 2 ^ zr p j % 2 = 0 ∧ zc p (zr p j) = j) := by decide +kernel
theorem zr3 : ∀ n, n < 7 → ∀ p, p < 64 → ∀ h, h < 6 → ¬ (p < 2 ^ n ∧ h < n ∧ p / 2 ^ h % 2 = 0) ∨ (zr p (zc p h) = h ∧ popc p + zc p h < n) := by decide +kernel
theorem zr_ok (n : Nat) (hn : n < 7) (p : Nat) (hp : p < 64) (h2 : p < 2 ^ n) : popc p + zc p n = n ∧ (∀ j, j < 6 → popc p + j < n → zr p j < n ∧ p / 2 ^ zr p j % 2 = 0 ∧ zc p (zr p j) = j) ∧ (∀ h, h < n → p / 2 ^ h % 2 = 0 → zr p (zc p h) = h ∧ popc p + zc p h < n) := ⟨zr1 n hn p hp h2, fun j j1 j2 => (zr2 n hn p hp j j1).elim (fun q => absurd ⟨h2, j2⟩ q) id, fun h h1 h3 => (zr3 n hn p hp h (by omega)).elim (fun q => absurd ⟨h2, h1, h3⟩ q) id⟩
theorem lt_pow : ∀ n, n < 7 → ∀ p, p < 64 → (∀ v, v < 6 → n ≤ v → p / 2 ^ v % 2 = 0) → p < 2 ^ n := by decide +kernel
def rowA (S : PS) (i : Nat) : Nat := if i < pc S then pf S i else zr (pp S) (i - pc S)
def finA (S : PS) : Nat → Nat := fun k => if 25 ≤ k ∧ k < 31 then rowA S (k - 25) else pA S k
theorem finA_l {S : PS} {i : Nat} (h : i < 6) : finA S (25 + i) = rowA S i := by
  unfold finA
  rw [if_pos (by omega), show 25 + i - 25 = i by omega]
theorem finA_o {S : PS} {k : Nat} (h : k < 25 ∨ 31 ≤ k) : finA S k = pA S k := by
  unfold finA
  rw [if_neg (by omega)]
theorem fit_pow {S : PS} (hS : PI S) (hf : fits6 S) : pp S < 2 ^ pA S 24 := by
  obtain ⟨g1, g2, g3, g4, g5, g6, g7, g8⟩ := hS
  have w6 := g7.1
  refine lt_pow (pA S 24) (by omega) (pp S) g1 (fun v hv hn => ?_)
  have : pp S / 2 ^ v % 2 = 0 ∨ pp S / 2 ^ v % 2 = 1 := by omega
  rcases this with h | h
  · exact h
  · obtain ⟨i, hi, e⟩ := g4 v hv h
    have := hf i hi
    omega
theorem fin_wf {S : PS} (hS : PI S) (hf : fits6 S) : WF (finA S) := by
  have hp := fit_pow hS hf
  obtain ⟨g1, g2, g3, g4, g5, g6, g7, g8⟩ := hS
  obtain ⟨w1, w2, w3, w4, w5, w6, w7⟩ := g7
  obtain ⟨z1, z2, z3⟩ := zr_ok (pA S 24) (by omega) (pp S) g1 hp
  have e24 : finA S 24 = pA S 24 := finA_o (by omega)
  unfold WF
  rw [e24]
  refine ⟨w1, fun h hh => ?_, fun i hi => ?_, fun i j hi hj e => ?_, fun h hh => ?_, ?_, ?_⟩
  · rw [finA_o (by omega), finA_o (by omega), finA_o (by omega), finA_o (by omega)]
    exact w2 h hh
  · rw [finA_l (by omega)]
    unfold rowA
    by_cases y : i < pc S
    · rw [if_pos y]; exact hf i y
    · rw [if_neg y]; exact (z2 (i - pc S) (by omega) (by omega)).1
  · rw [finA_l (by omega), finA_l (by omega)] at e
    unfold rowA at e
    by_cases yi : i < pc S
    · by_cases yj : j < pc S
      · rw [if_pos yi, if_pos yj] at e
        exact g5 i j yi yj e
      · rw [if_pos yi, if_neg yj] at e
        have a := (g3 i yi).2
        have b := (z2 (j - pc S) (by omega) (by omega)).2.1
        rw [e] at a
        omega
    · by_cases yj : j < pc S
      · rw [if_neg yi, if_pos yj] at e
        have a := (g3 j yj).2
        have b := (z2 (i - pc S) (by omega) (by omega)).2.1
        rw [← e] at a
        omega
      · rw [if_neg yi, if_neg yj] at e
        have a := (z2 (i - pc S) (by omega) (by omega)).2.2
        have b := (z2 (j - pc S) (by omega) (by omega)).2.2
        rw [e, b] at a
        omega
  · have : pp S / 2 ^ h % 2 = 0 ∨ pp S / 2 ^ h % 2 = 1 := by omega
    rcases this with y | y
    · obtain ⟨a, b⟩ := z3 h hh y
      refine ⟨pc S + zc (pp S) h, by omega, ?_⟩
      rw [finA_l (by omega)]
      unfold rowA
      rw [if_neg (by omega), show pc S + zc (pp S) h - pc S = zc (pp S) h by omega, a]
    · obtain ⟨i, hi, e⟩ := g4 h (by omega) y
      refine ⟨i, by omega, ?_⟩
      rw [finA_l (by omega)]
      unfold rowA
      rw [if_pos hi, e]
  · rw [finA_o (by omega)]; exact w6
  · rw [finA_o (by omega)]; exact w7
