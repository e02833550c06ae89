/-! leaps that slip: luck, mean -/
abbrev FF : Type := (Nat → Nat) → Int32 → Nat
def fM (v : Nat) (b : Bool) : Nat := if b = true then v else 10 - v
noncomputable def gMs (v : Nat) (F : FF) : Nat → Nat → (Nat → Nat) → Int32 → Nat
  | 0, _, A, kg => F A kg
  | m + 1, s, A, _ => fM v (s % 2 == 1) * gMs v F m (s / 2) (crA A (s % 2 == 1)) (nI (A 26))
def sumU (f : Nat → Nat) : Nat → Nat
  | 0 => 0
  | n + 1 => sumU f n + f n
theorem sumU_two (f : Nat → Nat) : ∀ n, sumU f (2 * n) = sumU (fun s => f (2 * s)) n + sumU (fun s => f (2 * s + 1)) n := by
  intro n
  induction n with
  | zero => rfl
  | succ n ih =>
    show sumU f (2 * n) + f (2 * n) + f (2 * n + 1) = (sumU (fun s => f (2 * s)) n + f (2 * n)) + (sumU (fun s => f (2 * s + 1)) n + f (2 * n + 1))
    rw [ih]
    omega
theorem sumU_mul (c : Nat) (f : Nat → Nat) : ∀ n, sumU (fun s => c * f s) n = c * sumU f n := by
  intro n
  induction n with
  | zero => rfl
  | succ n ih =>
    show sumU (fun s => c * f s) n + c * f n = c * (sumU f n + f n)
    rw [ih, Nat.mul_add]
theorem sumU_congr {f g : Nat → Nat} : ∀ n, (∀ s, s < n → f s = g s) → sumU f n = sumU g n := by
  intro n
  induction n with
  | zero => intro _; rfl
  | succ n ih =>
    intro h
    show sumU f n + f n = sumU g n + g n
    rw [ih (fun s hs => h s (by omega)), h n (by omega)]
theorem gM_sum {v : Nat} {F : FF} {m : Nat} {A : Nat → Nat} {kg : Int32} : sumU (fun s => gMs v F (m + 1) s A kg) (2 ^ (m + 1)) = fM v false * sumU (fun s => gMs v F m s (crA A false) (nI (A 26))) (2 ^ m) + fM v true * sumU (fun s => gMs v F m s (crA A true) (nI (A 26))) (2 ^ m) := by
  rw [Nat.pow_succ, Nat.mul_comm (2 ^ m) 2, sumU_two, ← sumU_mul, ← sumU_mul]
  congr 1
  · apply sumU_congr
    intro s _
    show fM v ((2 * s) % 2 == 1) * gMs v F m ((2 * s) / 2) (crA A ((2 * s) % 2 == 1)) (nI (A 26)) = _
    rw [show (2 * s) % 2 = 0 by omega, show (2 * s) / 2 = s by omega]
    rfl
  · apply sumU_congr
    intro s _
    show fM v ((2 * s + 1) % 2 == 1) * gMs v F m ((2 * s + 1) / 2) (crA A ((2 * s + 1) % 2 == 1)) (nI (A 26)) = _
    rw [show (2 * s + 1) % 2 = 1 by omega, show (2 * s + 1) / 2 = s by omega]
    rfl
theorem tot_le {v : Nat} {F : FF} (hv : v ≤ 10) (hF : ∀ B kg, WF B → F B kg ≤ 999) : ∀ (m : Nat) (A : Nat → Nat) (kg : Int32), WF A → 2 ≤ A 24 → sumU (fun s => gMs v F m s A kg) (2 ^ m) ≤ 999 * 10 ^ m := by
  intro m
  induction m with
  | zero =>
    intro A kg W h2
    show 0 + F A kg ≤ 999 * 1
    have := hF A kg W
    omega
  | succ m ih =>
    intro A kg W h2
    rw [gM_sum]
    have i1 := ih (crA A false) (nI (A 26)) (W.cr h2) (by rw [crA_n W h2]; exact h2)
    have i2 := ih (crA A true) (nI (A 26)) (W.cr h2) (by rw [crA_n W h2]; exact h2)
    have e1 := Nat.mul_le_mul_left (fM v false) i1
    have e2 := Nat.mul_le_mul_left (fM v true) i2
    refine Nat.le_trans (Nat.add_le_add e1 e2) ?_
    rw [← Nat.add_mul, show fM v false + fM v true = 10 by simp [fM]; omega, Nat.pow_succ, Nat.mul_left_comm, Nat.mul_comm 10 (10 ^ m)]
    omega
theorem bit_ok : ∀ s, s < 256 → ∀ r, r < 8 → (((nI s >>> (nI r &&& 31)) &&& (1 : Int32)) = 1 ↔ (s / 2 ^ r) % 2 = 1) := by decide +kernel
theorem shl_ok : ∀ n, n < 9 → (1 : Int32) <<< (nI n &&& 31) = nI (2 ^ n) := by decide +kernel
theorem od_v : ∀ v, v < 11 → (nI v).toInt64 = Int64.ofNat v ∧ ((10 : Int32) - nI v).toInt64 = Int64.ofNat (10 - v) := by decide +kernel
theorem x_weight {s v n : Nat} {σ : Mem} {A : Nat → Nat} {Q : Int64 → Mem → Prop} (hR : RX σ 12 A) (h2 : 2 ≤ A 24) (hv : v ≤ 10) (hn : n ≤ 8) (hs : s < 256)
    (hQ : ∀ (wt : Int64) (τ : Mem) (B : Nat → Nat) (kg : Int32), KX σ τ → τ.1 19 8 = kg → τ.1 19 4 = nI (B 32) → WF B → (∀ F : FF, wt * Int64.ofNat (F B kg) = Int64.ofNat (gMs v F n s A (-4))) → Q wt τ) : wp_X5_weightOf (nI s) (nI v) (nI n) σ Q := by
  intro P17 P38 P57 h17 h38 h57
  have key : ∀ (m r : Nat) (B : Nat → Nat) (kg : Int32) (w : Int64) (τ : Mem), r + m = n → RX τ 19 B → B 24 = A 24 → τ.1 19 8 = kg → KX σ τ → (∀ F : FF, w * Int64.ofNat (gMs v F m (s / 2 ^ r) B kg) = Int64.ofNat (gMs v F n s A (-4))) → P17 w (nI r) τ := by
    intro m
    induction m with
    | zero =>
      intro r B kg w τ hr hB h24 hkg hK hF
      apply h17
      have e := hB.2.2.2.2 32 (by omega) (by omega)
      exact pk_le n r (fun _ => hQ w τ B kg hK hkg e hB.1 (fun F => hF F)) (fun q => by omega)
    | succ m ih =>
      intro r B kg w τ hr hB h24 hkg hK hF
      apply h17
      have e := hB.2.2.2.2 32 (by omega) (by omega)
      refine pk_le n r (fun q => by omega) (fun _ => ?_)
      have body : ∀ (b : Bool) (sl : Int32), (sl = 0 ∧ b = false) ∨ (¬ sl = 0 ∧ b = true) → (s / 2 ^ r % 2 == 1) = b → P38 w (nI r) sl τ := by
        intro b sl hsl hb
        have nxt : P57 (nI r) sl (Int64.ofNat (fM v b)) w τ := by
          apply h57
          rintro _ rfl
          have eF : ∀ F : FF, w * Int64.ofNat (fM v b) * Int64.ofNat (gMs v F m (s / 2 ^ (r + 1)) (crA B b) (nI (B 26))) = Int64.ofNat (gMs v F n s A (-4)) := by
            intro F
            rw [← hF F, Int64.mul_assoc, ← Int64.ofNat_mul]
            have : gMs v F (m + 1) (s / 2 ^ r) B kg = fM v b * gMs v F m (s / 2 ^ (r + 1)) (crA B b) (nI (B 26)) := by
              rw [← hb, Nat.pow_succ, ← Nat.div_div_eq_div_mul]
              rfl
            rw [this]
          refine ⟨fun e1 => ?_, fun e1 => ?_⟩
          · refine x_crown hsl hB (by omega) (fun υ u1 u2 _ _ _ _ u3 u4 => ?_)
            rintro _ rfl
            rw [nI_1]
            exact ih (r + 1) _ _ _ υ (by omega) u1 (by rw [crA_n hB.1 (by omega)]; exact h24) u2 (hK.tr (KX.of u3 u4)) eF
          · rw [lg_cmp_eq] at e1
            refine hQ 0 τ B kg hK hkg e hB.1 (fun F => ?_)
            have := eF F
            rw [e1, Int64.zero_mul] at this
            rw [Int64.zero_mul]
            exact this
        apply h38
        refine ⟨fun e1 => ?_, fun e1 => ?_⟩
        · rcases hsl with ⟨_, rfl⟩ | ⟨q, _⟩
          · rw [(od_v v (by omega)).2]
            exact nxt
          · exact absurd e1 q
        · rcases hsl with ⟨q, _⟩ | ⟨_, rfl⟩
          · exact absurd q e1
          · rw [(od_v v (by omega)).1]
            exact nxt
      rw [bit_ok s hs r (by omega)]
      refine ⟨fun q => body false 0 (Or.inl ⟨rfl, rfl⟩) (by simpa using q), fun q => body true 1 (Or.inr ⟨by decide, rfl⟩) (by simpa using q)⟩
  refine x_try hR (fun τ t1 t2 t3 => key n 0 A (-4) 1 τ (by omega) t1 rfl t2 t3 (fun F => ?_))
  rw [Int64.one_mul, Nat.pow_zero, Nat.div_one]
theorem x_ten {n : Nat} {σ : Mem} {Q : Int64 → Mem → Prop} (hn : n ≤ 8) (hQ : Q (Int64.ofNat (10 ^ n)) σ) : wp_X5_tenTo (nI n) σ Q := by
  intro P4 h4
  have key : ∀ m j : Nat, j + m = n → P4 (Int64.ofNat (10 ^ j)) (nI j) σ := by
    intro m
    induction m with
    | zero =>
      intro j hj
      apply h4
      refine pk_le n j (fun _ => ?_) (fun q => by omega)
      rw [show j = n by omega]
      exact hQ
    | succ m ih =>
      intro j hj
      apply h4
      refine pk_le n j (fun q => by omega) (fun _ => ?_)
      rintro _ rfl _ rfl
      rw [nI_1, show (10 : Int64) = Int64.ofNat 10 from rfl, ← Int64.ofNat_mul, ← Nat.pow_succ]
      exact ih (j + 1) (by omega)
  exact key n 0 (by omega)
/-! Euclid -/
theorem o64 {a : Nat} (h : a < 2 ^ 63) : (Int64.ofNat a).toInt = a := Int64.toInt_ofNat_of_lt h
theorem o64_0 {a : Nat} (h : a < 2 ^ 63) : Int64.ofNat a = 0 ↔ a = 0 := by
  rw [← Int64.toInt_inj, o64 h, show (0 : Int64).toInt = 0 from rfl]
  omega
theorem div64 {a b : Nat} (ha : a < 2 ^ 62) (hb : b < 2 ^ 62) : Int64.ofNat a / Int64.ofNat b = Int64.ofNat (a / b) := by
  have hd : a / b ≤ a := Nat.div_le_self a b
  apply Int64.toInt_inj.mp
  rw [Int64.toInt_div, o64 (by omega), o64 (by omega), o64 (by omega), ← Int.ofNat_tdiv]
  generalize a / b = q at hd
  apply Int.bmod_eq_of_le <;> omega
theorem mod64 {a b : Nat} (ha : a < 2 ^ 62) (hb : b < 2 ^ 62) : Int64.ofNat a - Int64.ofNat a / Int64.ofNat b * Int64.ofNat b = Int64.ofNat (a % b) := by
  rw [div64 ha hb, ← Int64.ofNat_mul]
  have h1 : a / b * b + a % b = a := by rw [Nat.mul_comm]; exact Nat.div_add_mod a b
  have h2 : Int64.ofNat a = Int64.ofNat (a % b) + Int64.ofNat (a / b * b) := by
    rw [← Int64.ofNat_add, Nat.add_comm, h1]
  rw [h2, Int64.add_sub_cancel]
noncomputable def vOdds (S T : Nat) (c : Int32) : Int64 := cs (c = 0) (Int64.ofNat S / Int64.ofNat (Nat.gcd T S)) (Int64.ofNat T / Int64.ofNat (Nat.gcd T S))
theorem gcd_step {a b : Nat} : Nat.gcd b (a % b) = Nat.gcd a b := by
  rw [Nat.gcd_comm b, ← Nat.gcd_rec, Nat.gcd_comm]
theorem x_part {S T : Nat} {c : Int32} {σ : Mem} {Q : Int64 → Mem → Prop} (hT : 0 < T) (hT2 : T ≤ 10 ^ 8) (hS : S ≤ 999 * 10 ^ 8) (hQ : Q (vOdds S T c) σ) : wp_X5_partOfFraction (Int64.ofNat S) (Int64.ofNat T) c σ Q := by
  intro P9 P44 h9 h44
  have hg : 0 < Nat.gcd T S := Nat.gcd_pos_of_pos_left S hT
  have hg2 : Nat.gcd T S ≤ T := Nat.gcd_le_left S hT
  have fin : P44 (Int64.ofNat (Nat.gcd T S)) σ := by
    apply h44
    have hne : ¬ Int64.ofNat (Nat.gcd T S) = 0 := by rw [o64_0 (by omega)]; omega
    unfold vOdds at hQ
    rw [lg_cmp_eq]
    refine ⟨fun _ => ⟨fun e => ⟨hne, ?_⟩, fun e => ⟨hne, ?_⟩⟩, fun e => absurd e hne⟩
    · rw [cs_f e] at hQ
      exact hQ
    · rw [cs_t e] at hQ
      exact hQ
  have key : ∀ j a b i : Nat, a < 2 ^ 62 → b ≤ a → a * b < 2 ^ j → i + j + 1 ≤ 100 → Nat.gcd a b = Nat.gcd T S → P9 (Int64.ofNat a) (Int64.ofNat b) (nI i) σ := by
    intro j
    induction j with
    | zero =>
      intro a b i ha hba hab hi hgc
      have hb : b = 0 := by
        rcases Nat.eq_zero_or_pos b with q | q
        · exact q
        · have := Nat.mul_le_mul (show 1 ≤ a by omega) (show 1 ≤ b by omega)
          omega
      subst hb
      rw [Nat.gcd_zero_right] at hgc
      subst hgc
      apply h9
      exact pk_le 100 i (fun _ => fin) (fun _ => ⟨fun _ => fin, fun q => absurd ((lg_cmp_eq _ _).mpr rfl) q⟩)
    | succ j ih =>
      intro a b i ha hba hab hi hgc
      apply h9
      refine pk_le 100 i (fun q => by omega) (fun _ => ?_)
      rw [lg_cmp_eq, o64_0 (by omega)]
      refine ⟨fun q => ?_, fun q => ⟨q, ?_⟩⟩
      · subst q
        rw [Nat.gcd_zero_right] at hgc
        rw [hgc]
        exact fin
      · rintro _ rfl _ rfl
        rw [mod64 ha (by omega), nI_1]
        have hm : a % b < b := Nat.mod_lt a (by omega)
        have h1 : b * (a / b) + a % b = a := Nat.div_add_mod a b
        have h2 : 1 ≤ a / b := (Nat.one_le_div_iff (by omega)).mpr hba
        have h3 := Nat.mul_le_mul_left b h2
        have h4 : b * (a % b) * 2 ≤ a * b := by
          rw [Nat.mul_assoc, Nat.mul_comm a b]
          exact Nat.mul_le_mul_left b (by omega)
        exact ih b (a % b) (i + 1) (by omega) (by omega) (by rw [Nat.pow_succ] at hab; omega) (by omega) (by rw [gcd_step]; exact hgc)
  have hTS : T * S < 2 ^ 64 := by
    have := Nat.mul_le_mul hT2 hS
    omega
  by_cases hST : S ≤ T
  · exact key 64 T S 0 (by omega) hST hTS (by omega) rfl
  · apply h9
    refine pk_le 100 0 (fun q => by omega) (fun _ => ?_)
    rw [lg_cmp_eq, o64_0 (by omega)]
    refine ⟨fun q => by omega, fun q => ⟨q, ?_⟩⟩
    rintro _ rfl _ rfl
    rw [mod64 (by omega) (by omega), Nat.mod_eq_of_lt (by omega)]
    exact key 64 S T 1 (by omega) (by omega) (by rw [Nat.mul_comm]; exact hTS) (by omega) (Nat.gcd_comm S T)
theorem m_told {S T : Nat} {c : Int32} {σ : Mem} {Q : Int64 → Mem → Prop} (hT : 0 < T) (hT2 : T ≤ 10 ^ 8) (hS : S ≤ 999 * 10 ^ 8) (hQ : Q (vOdds S T c) σ) : wp_X6_told (Int64.ofNat S) (Int64.ofNat T) c σ Q := by
  intro P6 h6
  have hg : 0 < Nat.gcd T S := Nat.gcd_pos_of_pos_left S hT
  have hg2 : Nat.gcd T S ≤ T := Nat.gcd_le_left S hT
  have key : ∀ j a b : Nat, b < j → a < 2 ^ 62 → b < 2 ^ 62 → Nat.gcd a b = Nat.gcd T S → P6 (Int64.ofNat a) (Int64.ofNat b) σ := by
    intro j
    induction j with
    | zero => intro a b h; omega
    | succ j ih =>
      intro a b hb ha hb2 hgc
      apply h6
      rw [lg_cmp_eq, o64_0 (by omega)]
      refine ⟨fun q => ?_, fun q => ⟨q, ?_⟩⟩
      · subst q
        rw [Nat.gcd_zero_right] at hgc
        subst hgc
        have hne : ¬ Int64.ofNat (Nat.gcd T S) = 0 := by rw [o64_0 (by omega)]; omega
        unfold vOdds at hQ
        refine ⟨fun e => ⟨hne, ?_⟩, fun e => ⟨hne, ?_⟩⟩
        · rw [cs_f e] at hQ
          exact hQ
        · rw [cs_t e] at hQ
          exact hQ
      · rintro _ rfl
        rw [mod64 ha hb2]
        have hm : a % b < b := Nat.mod_lt a (by omega)
        exact ih b (a % b) (by omega) hb2 (by omega) (by rw [gcd_step]; exact hgc)
  exact key (S + 1) T S (by omega) (by omega) (by omega) rfl
noncomputable def FL (a : Int32) : FF := fun _ kg => cs (kg = a) 1 0
def FW : FF := fun B _ => B 32
noncomputable def tS (F : FF) (v n : Nat) (A : Nat → Nat) : Nat := sumU (fun s => gMs v F n s A (-4)) (2 ^ n)
noncomputable def ansL (c : Prop) (A : Nat → Nat) (v : Int64) : Int64 := cs c (cs (2 ≤ A 24) v (-2)) (-1)
noncomputable def aLuck (A : Nat → Nat) (a b c d : Int32) : Int64 := ansL (wc 0 10 a ∧ wc 0 8 c ∧ wc 0 1 d ∧ hc A b) A (vOdds (tS (FL b) a.toNatClampNeg c.toNatClampNeg A) (10 ^ c.toNatClampNeg) d)
noncomputable def aMean (A : Nat → Nat) (a c d : Int32) : Int64 := ansL (wc 0 10 a ∧ wc 0 8 c ∧ wc 0 1 d) A (vOdds (tS FW a.toNatClampNeg c.toNatClampNeg A) (10 ^ c.toNatClampNeg) d)
theorem FL_le {a : Int32} : ∀ B kg, WF B → FL a B kg ≤ 999 := by
  intro B kg _
  unfold FL
  by_cases h : kg = a
  · rw [cs_t h]; omega
  · rw [cs_f h]; omega
theorem FW_le : ∀ B kg, WF B → FW B kg ≤ 999 := fun B _ W => W.2.2.2.2.2.2
theorem p10 {n : Nat} (hn : n ≤ 8) : 0 < 10 ^ n ∧ 10 ^ n ≤ 10 ^ 8 := ⟨Nat.pow_pos (by omega), Nat.pow_le_pow_right (by omega) hn⟩
theorem tS_le {F : FF} {v n : Nat} {A : Nat → Nat} (hv : v ≤ 10) (hn : n ≤ 8) (hF : ∀ B kg, WF B → F B kg ≤ 999) (W : WF A) (h2 : 2 ≤ A 24) : tS F v n A ≤ 999 * 10 ^ 8 :=
  Nat.le_trans (tot_le hv hF n A (-4) W h2) (Nat.mul_le_mul_left 999 (p10 hn).2)
theorem x_isOdds {a b c : Int32} {σ : Mem} {Q : Int32 → Mem → Prop} (h0 : ¬ (wc 0 10 a ∧ wc 0 8 b ∧ wc 0 1 c) → Q 0 σ) (h1 : wc 0 10 a ∧ wc 0 8 b ∧ wc 0 1 c → Q 1 σ) : wp_X5_isOdds a b c σ Q := by
  refine x_wi (fun h => b01 (h0 (fun q => h q.1))) (fun ha => b11 ?_)
  refine x_wi (fun h => b01 (h0 (fun q => h q.2.1))) (fun hb => b11 ?_)
  exact x_isWhich (fun h => b01 (h0 (fun q => h q.2.2))) (fun hc => b11 (h1 ⟨ha, hb, hc⟩))
theorem pw8 {n : Nat} (hn : n ≤ 8) : 2 ^ n ≤ 256 := Nat.pow_le_pow_right (n := 2) (by omega) hn
theorem x_luck {a b c d : Int32} {σ : Mem} {A : Nat → Nat} {Q : Int64 → Mem → Prop} (hR : RX σ 12 A) (hQ : ∀ τ : Mem, KX σ τ → Q (aLuck A a b c d) τ) : wp_X5_luck a b c d σ Q := by
  have w6 := hR.1.1
  unfold aLuck at hQ
  intro P23 P24 P44 P80 h23 h24 h44 h80
  have bad : ¬ (wc 0 10 a ∧ wc 0 8 c ∧ wc 0 1 d ∧ hc A b) → P23 σ := by
    intro h
    apply h23
    apply h24
    refine x_ref (Q := fun r τ => Q r.toInt64 τ) (G := fun τ => P44 0 0 τ) hR (fun _ => ?_) (fun q => absurd rfl q) (fun q => absurd rfl q)
    have := hQ σ KX.rf
    unfold ansL at this
    rw [cs_f h] at this
    exact this
  refine x_isOdds (fun h => b01 (bad (fun q => h ⟨q.1, q.2.1, q.2.2.1⟩))) (fun ho => b11 ?_)
  refine x_isHeir hR.2.1 (fun h => b01 (bad (fun q => h q.2.2.2))) (fun hb => b11 ?_)
  have hall : wc 0 10 a ∧ wc 0 8 c ∧ wc 0 1 d ∧ hc A b := ⟨ho.1, ho.2.1, ho.2.2, hb⟩
  unfold ansL at hQ
  rw [cs_t hall] at hQ
  apply h24
  refine x_ref (Q := fun r τ => Q r.toInt64 τ) (G := fun τ => P44 0 0 τ) hR (fun q => absurd q (by decide)) (fun _ q => ?_) (fun _ h2 => ?_)
  · have := hQ σ KX.rf
    rw [cs_f (by omega)] at this
    exact this
  rw [cs_t h2] at hQ
  obtain ⟨v, hv, rfl⟩ := wc_of (n := 10) rfl (by omega) ho.1
  obtain ⟨n, hn, rfl⟩ := wc_of (n := 8) rfl (by omega) ho.2.1
  rw [nI_clamp (show v < 2 ^ 31 by omega), nI_clamp (show n < 2 ^ 31 by omega)] at hQ
  rw [shl_ok n (by omega)] at h44
  have hp := pw8 hn
  have key : ∀ (m s : Nat) (τ : Mem), s + m = 2 ^ n → KX σ τ → P44 (Int64.ofNat (sumU (fun s => gMs v (FL b) n s A (-4)) s)) (nI s) τ := by
    intro m
    induction m with
    | zero =>
      intro s τ hs hK
      apply h44
      refine pk_le (2 ^ n) s (fun _ => ?_) (fun q => by omega)
      refine x_ten hn ?_
      have hs' : s = 2 ^ n := by omega
      subst hs'
      exact x_part (p10 hn).1 (p10 hn).2 (tS_le hv hn FL_le hR.1 h2) (hQ τ hK)
    | succ m ih =>
      intro s τ hs hK
      apply h44
      refine pk_le (2 ^ n) s (fun q => by omega) (fun _ => ?_)
      refine x_weight (hR.now hK) h2 hv hn (by omega) (fun wt υ B kg hK2 e1 _ _ e3 => ?_)
      have e4 := e3 (FL b)
      unfold FL at e4
      have fin : ∀ acc, acc = Int64.ofNat (sumU (fun s => gMs v (FL b) n s A (-4)) (s + 1)) → P80 acc (nI s) υ := by
        rintro _ rfl
        apply h80
        rintro _ rfl
        rw [nI_1]
        exact ih (s + 1) υ (by omega) (hK.tr hK2)
      have es : Int64.ofNat (sumU (fun s => gMs v (FL b) n s A (-4)) (s + 1)) = Int64.ofNat (sumU (fun s => gMs v (FL b) n s A (-4)) s) + Int64.ofNat (gMs v (FL b) n s A (-4)) := Int64.ofNat_add _ _
      rw [e1]
      refine ⟨fun q => fin _ ?_, fun q => ?_⟩
      · rw [cs_f q, show Int64.ofNat 0 = 0 from rfl, Int64.mul_zero] at e4
        rw [es]
        unfold FL
        rw [← e4, Int64.add_zero]
      · rintro _ rfl
        refine fin _ ?_
        rw [cs_t q, show Int64.ofNat 1 = 1 from rfl, Int64.mul_one] at e4
        rw [es, e4]
        rfl
  exact key (2 ^ n) 0 σ (by omega) KX.rf
theorem x_mean {a c d : Int32} {σ : Mem} {A : Nat → Nat} {Q : Int64 → Mem → Prop} (hR : RX σ 12 A) (hQ : ∀ τ : Mem, KX σ τ → Q (aMean A a c d) τ) : wp_X5_mean a c d σ Q := by
  have w6 := hR.1.1
  unfold aMean ansL at hQ
  intro P27 h27
  refine x_isOdds (fun h => ?_) (fun ho => ?_)
  · refine x_ref (Q := fun r τ => Q r.toInt64 τ) (G := fun τ => P27 0 0 τ) hR (fun _ => ?_) (fun q => absurd rfl q) (fun q => absurd rfl q)
    have := hQ σ KX.rf
    rw [cs_f h] at this
    exact this
  rw [cs_t ho] at hQ
  refine x_ref (Q := fun r τ => Q r.toInt64 τ) (G := fun τ => P27 0 0 τ) hR (fun q => absurd q (by decide)) (fun _ q => ?_) (fun _ h2 => ?_)
  · have := hQ σ KX.rf
    rw [cs_f (by omega)] at this
    exact this
  rw [cs_t h2] at hQ
  obtain ⟨v, hv, rfl⟩ := wc_of (n := 10) rfl (by omega) ho.1
  obtain ⟨n, hn, rfl⟩ := wc_of (n := 8) rfl (by omega) ho.2.1
  rw [nI_clamp (show v < 2 ^ 31 by omega), nI_clamp (show n < 2 ^ 31 by omega)] at hQ
  rw [shl_ok n (by omega)] at h27
  have hp := pw8 hn
  have key : ∀ (m s : Nat) (τ : Mem), s + m = 2 ^ n → KX σ τ → P27 (Int64.ofNat (sumU (fun s => gMs v FW n s A (-4)) s)) (nI s) τ := by
    intro m
    induction m with
    | zero =>
      intro s τ hs hK
      apply h27
      refine pk_le (2 ^ n) s (fun _ => ?_) (fun q => by omega)
      refine x_ten hn ?_
      have hs' : s = 2 ^ n := by omega
      subst hs'
      exact x_part (p10 hn).1 (p10 hn).2 (tS_le hv hn FW_le hR.1 h2) (hQ τ hK)
    | succ m ih =>
      intro s τ hs hK
      apply h27
      refine pk_le (2 ^ n) s (fun q => by omega) (fun _ => ?_)
      refine x_weight (hR.now hK) h2 hv hn (by omega) (fun wt υ B kg hK2 _ e2 hB e3 => ?_)
      have e4 := e3 FW
      have hb := hB.2.2.2.2.2.2
      have es : Int64.ofNat (sumU (fun s => gMs v FW n s A (-4)) (s + 1)) = Int64.ofNat (sumU (fun s => gMs v FW n s A (-4)) s) + Int64.ofNat (gMs v FW n s A (-4)) := Int64.ofNat_add _ _
      rintro _ rfl _ rfl
      rw [e2, nI_64 (by omega), nI_1]
      have := ih (s + 1) υ (by omega) (hK.tr hK2)
      rw [es, ← e4] at this
      exact this
  exact key (2 ^ n) 0 σ (by omega) KX.rf
theorem m_find {v n : Nat} {b : Int32} {σ : Mem} {A : Nat → Nat} {Q : Mem → Prop} (hR : Rl (σ.1 65) A) (h2 : 2 ≤ A 24) (hv : v ≤ 10) (hn : n ≤ 8)
    (hQ : ∀ τ : Mem, KM σ τ → τ.2 64 21 = Int64.ofNat (tS (FL b) v n A) → τ.2 64 22 = Int64.ofNat (tS FW v n A) → τ.2 64 23 = Int64.ofNat (10 ^ n) → Q τ) : wp_X6_findOdds (nI v) b (nI n) σ Q := by
  intro P18 P45 P69 P91 P110 P144 h18 h45 h69 h91 h110 h144
  rw [shl_ok n (by omega)] at h45
  have hp := pw8 hn
  rintro _ rfl _ rfl _ rfl
  have outer : ∀ (m s : Nat) (τ : Mem), s + m = 2 ^ n → KM σ τ → τ.2 64 21 = Int64.ofNat (sumU (fun s => gMs v (FL b) n s A (-4)) s) → τ.2 64 22 = Int64.ofNat (sumU (fun s => gMs v FW n s A (-4)) s) → τ.2 64 23 = Int64.ofNat (10 ^ n) → P45 (nI s) τ := by
    intro m
    induction m with
    | zero =>
      intro s τ hs hK g1 g2 g3
      apply h45
      refine pk_le (2 ^ n) s (fun _ => ?_) (fun q => by omega)
      have hs' : s = 2 ^ n := by omega
      subst hs'
      exact hQ τ hK g1 g2 g3
    | succ m ihO =>
      intro s τ hs hK g1 g2 g3
      apply h45
      refine pk_le (2 ^ n) s (fun q => by omega) (fun _ => ?_)
      refine m_starts (fun υ u1 u2 u3 => ?_)
      rintro _ rfl
      have hRu : Rl ((st1 υ 64 17 (-4)).1 66) A := hR.fr (fun k hk => by rw [mm1 (by omega), u1 k (by omega)]; exact hK 65 k (by omega) (by omega) (by omega) (by omega) (by omega) (by omega))
      have hKu : KM σ (st1 υ 64 17 (-4)) := fun x y p1 p2 p3 p4 p5 p6 => by
        rw [st1_get, if_neg (by omega), u2 x y p1]
        exact hK x y p1 p2 p3 p4 p5 p6
      have inner : ∀ (m r : Nat) (B : Nat → Nat) (kg : Int32) (w : Int64) (ψ : Mem), r + m = n → Rl (ψ.1 66) B → B 24 = A 24 → ψ.1 64 17 = kg → KM σ ψ → ψ.2 = τ.2 → (∀ F : FF, w * Int64.ofNat (gMs v F m (s / 2 ^ r) B kg) = Int64.ofNat (gMs v F n s A (-4))) → P69 (nI s) w (nI r) ψ := by
        intro m
        induction m with
        | zero =>
          intro r B kg w ψ hr hB h24 hkg hKp hp2 hF
          apply h69
          refine pk_le n r (fun _ => ?_) (fun q => by omega)
          have eL := hF (FL b)
          have eW := hF FW
          have e32 := hB.2.2.2.2 32 (by omega) (by omega)
          have hb := hB.1.2.2.2.2.2.2
          have es1 : Int64.ofNat (sumU (fun s => gMs v (FL b) n s A (-4)) (s + 1)) = Int64.ofNat (sumU (fun s => gMs v (FL b) n s A (-4)) s) + Int64.ofNat (gMs v (FL b) n s A (-4)) := Int64.ofNat_add _ _
          have es2 : Int64.ofNat (sumU (fun s => gMs v FW n s A (-4)) (s + 1)) = Int64.ofNat (sumU (fun s => gMs v FW n s A (-4)) s) + Int64.ofNat (gMs v FW n s A (-4)) := Int64.ofNat_add _ _
          have fin : ∀ c, Int64.ofNat (gMs v (FL b) n s A (-4)) = c → P144 (nI s) w c (ψ.2 64 21) ψ := by
            intro c hc
            apply h144
            rintro _ rfl _ rfl _ rfl
            rw [nI_1]
            refine ihO (s + 1) _ (by omega) (fun x y p1 p2 p3 p4 p5 p6 => hKp x y p1 p2 p3 p4 p5 p6) ?_ ?_ ?_
            · rw [ml2 (by omega), ml3, es1, hp2, g1, hc]
            · rw [ml3, ml2 (by omega), ms2, tc32, e32, nI_64 (by omega), es2, hp2, g2, ← eW]
              rfl
            · rw [ml2 (by omega), ml2 (by omega), hp2]
              exact g3
          rw [hkg]
          refine ⟨fun q => fin _ ?_, fun q => fin _ ?_⟩
          · rw [← eL]
            show w * Int64.ofNat (cs (kg = b) 1 0) = 0
            rw [cs_f q, show Int64.ofNat 0 = 0 from rfl, Int64.mul_zero]
          · rw [← eL]
            show w * Int64.ofNat (cs (kg = b) 1 0) = w
            rw [cs_t q, show Int64.ofNat 1 = 1 from rfl, Int64.mul_one]
        | succ m ih =>
          intro r B kg w ψ hr hB h24 hkg hKp hp2 hF
          apply h69
          refine pk_le n r (fun q => by omega) (fun _ => ?_)
          have body : ∀ (bb : Bool) (sl : Int32), (sl = 0 ∧ bb = false) ∨ (¬ sl = 0 ∧ bb = true) → (s / 2 ^ r % 2 == 1) = bb → P91 (nI s) w (nI r) sl ψ := by
            intro bb sl hsl hb
            apply h91
            have nxt : P110 (nI s) (nI r) sl (Int64.ofNat (fM v bb)) w ψ := by
              apply h110
              rintro _ rfl
              refine m_reign hsl hB (by omega) (fun χ c1 c2 _ _ c3 => ?_)
              rintro _ rfl
              rw [nI_1]
              refine ih (r + 1) _ _ _ χ (by omega) c1 (by rw [crA_n hB.1 (by omega)]; exact h24) c2 (hKp.tr c3.km) (by rw [c3.2.2]; exact hp2) (fun F => ?_)
              rw [← hF F, Int64.mul_assoc, ← Int64.ofNat_mul]
              have : gMs v F (m + 1) (s / 2 ^ r) B kg = fM v bb * gMs v F m (s / 2 ^ (r + 1)) (crA B bb) (nI (B 26)) := by
                rw [← hb, Nat.pow_succ, ← Nat.div_div_eq_div_mul]
                rfl
              rw [this]
            rw [(od_v v (by omega)).1, (od_v v (by omega)).2]
            refine ⟨fun e1 => ?_, fun e1 => ?_⟩
            · rcases hsl with ⟨_, rfl⟩ | ⟨q, _⟩
              · exact nxt
              · exact absurd e1 q
            · rcases hsl with ⟨q, _⟩ | ⟨_, rfl⟩
              · exact absurd q e1
              · exact nxt
          rw [bit_ok s (by omega) r (by omega)]
          exact ⟨fun q => body false 0 (Or.inl ⟨rfl, rfl⟩) (by simpa using q), fun q => body true 1 (Or.inr ⟨by decide, rfl⟩) (by simpa using q)⟩
      refine inner n 0 A (-4) 1 _ (by omega) hRu rfl mm3 hKu (by rw [ms1]; exact u3) (fun F => ?_)
      rw [Int64.one_mul, Nat.pow_zero, Nat.div_one]
  have tens : ∀ (m j : Nat) (τ : Mem), j + m = n → τ.1 = σ.1 → τ.2 64 21 = 0 → τ.2 64 22 = 0 → τ.2 64 23 = Int64.ofNat (10 ^ j) → P18 (nI j) τ := by
    intro m
    induction m with
    | zero =>
      intro j τ hj e g1 g2 g3
      apply h18
      refine pk_le n j (fun _ => ?_) (fun q => by omega)
      rw [show j = n by omega] at g3
      exact outer (2 ^ n) 0 τ (by omega) (fun x y _ _ _ _ _ _ => by rw [e]) g1 g2 g3
    | succ m ih =>
      intro j τ hj e g1 g2 g3
      apply h18
      refine pk_le n j (fun q => by omega) (fun _ => ?_)
      rintro _ rfl _ rfl
      rw [nI_1]
      refine ih (j + 1) _ (by omega) (by rw [ms2]; exact e) (by rw [ml2 (by omega)]; exact g1) (by rw [ml2 (by omega)]; exact g2) ?_
      rw [ml3, g3, show (10 : Int64) = Int64.ofNat 10 from rfl, ← Int64.ofNat_mul, ← Nat.pow_succ]
  refine tens n 0 _ (by omega) rfl ?_ ?_ ml3
  · rw [ml2 (by omega), ml2 (by omega), ml3]
  · rw [ml2 (by omega), ml3]
theorem m_luck {a b c d : Int32} {σ : Mem} {A : Nat → Nat} {Q : Int64 → Mem → Prop} (hR : Rl (σ.1 65) A) (hQ : ∀ τ : Mem, KM σ τ → Q (aLuck A a b c d) τ) : wp_X6_luck a b c d σ Q := by
  unfold aLuck ansL at hQ
  have bad : ¬ (wc 0 10 a ∧ wc 0 8 c ∧ wc 0 1 d ∧ hc A b) → Q (-1) σ := fun h => by
    have := hQ σ KM.rf
    rw [cs_f h] at this
    exact this
  refine m_wi 0 10 rfl rfl (fun h => b01 (bad (fun q => h q.1))) (fun ha => b11 ?_)
  refine m_heir hR.2.1 (fun h => b01 (bad (fun q => h q.2.2.2))) (fun hb => b11 ?_)
  refine m_wi 0 8 rfl rfl (fun h => b01 (bad (fun q => h q.2.1))) (fun hc => b11 ?_)
  refine m_part (fun h => b00 (bad (fun q => h q.2.2.1))) (fun hd => b10 ?_)
  rw [cs_t ⟨ha, hc, hd, hb⟩] at hQ
  refine m_twoR hR (fun q => b00 ?_) (fun h2 => b10 ?_)
  · have := hQ σ KM.rf
    rw [cs_f (by omega)] at this
    exact this
  rw [cs_t h2] at hQ
  obtain ⟨v, hv, rfl⟩ := wc_of (n := 10) rfl (by omega) ha
  obtain ⟨n, hn, rfl⟩ := wc_of (n := 8) rfl (by omega) hc
  rw [nI_clamp (show v < 2 ^ 31 by omega), nI_clamp (show n < 2 ^ 31 by omega)] at hQ
  refine m_find hR h2 hv hn (fun τ t1 t2 _ t4 => ?_)
  rw [t2, t4]
  exact m_told (p10 hn).1 (p10 hn).2 (tS_le hv hn FL_le hR.1 h2) (hQ τ t1)
theorem m_mean {a c d : Int32} {σ : Mem} {A : Nat → Nat} {Q : Int64 → Mem → Prop} (hR : Rl (σ.1 65) A) (hQ : ∀ τ : Mem, KM σ τ → Q (aMean A a c d) τ) : wp_X6_mean a c d σ Q := by
  unfold aMean ansL at hQ
  have bad : ¬ (wc 0 10 a ∧ wc 0 8 c ∧ wc 0 1 d) → Q (-1) σ := fun h => by
    have := hQ σ KM.rf
    rw [cs_f h] at this
    exact this
  refine m_wi 0 10 rfl rfl (fun h => b01 (bad (fun q => h q.1))) (fun ha => b11 ?_)
  refine m_wi 0 8 rfl rfl (fun h => b01 (bad (fun q => h q.2.1))) (fun hc => b11 ?_)
  refine m_part (fun h => b00 (bad (fun q => h q.2.2))) (fun hd => b10 ?_)
  rw [cs_t ⟨ha, hc, hd⟩] at hQ
  refine m_twoR hR (fun q => b00 ?_) (fun h2 => b10 ?_)
  · have := hQ σ KM.rf
    rw [cs_f (by omega)] at this
    exact this
  rw [cs_t h2] at hQ
  obtain ⟨v, hv, rfl⟩ := wc_of (n := 10) rfl (by omega) ha
  obtain ⟨n, hn, rfl⟩ := wc_of (n := 8) rfl (by omega) hc
  rw [nI_clamp (show v < 2 ^ 31 by omega), nI_clamp (show n < 2 ^ 31 by omega)] at hQ
  refine m_find hR h2 hv hn (fun τ t1 _ t3 t4 => ?_)
  rw [t3, t4]
  exact m_told (p10 hn).1 (p10 hn).2 (tS_le hv hn FW_le hR.1 h2) (hQ τ t1)
