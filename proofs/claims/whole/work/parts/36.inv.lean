/-! the invariant that every call keeps -/
theorem SX.cg {σ : Mem} {d : Nat} {A B : Nat → Nat} (h : SX σ d A) (hk : ∀ k, 36 ≤ k → B k = A k) : SX σ d B := by
  obtain ⟨⟨w1, w2⟩, h1, h2⟩ := h
  have e := hk 36 (by omega)
  refine ⟨⟨by rw [e]; exact w1, fun i hi => by rw [hk _ (by omega)]; exact w2 i (by omega)⟩, by rw [e]; exact h1, fun i hi => ?_⟩
  rw [hk _ (by omega), hk _ (by omega)]
  exact h2 i (by omega)
theorem SL.cg {g : Nat → Int32} {A B : Nat → Nat} (h : SL g A) (hk : ∀ k, 36 ≤ k → B k = A k) : SL g B := by
  obtain ⟨⟨w1, w2⟩, h1, h2⟩ := h
  have e := hk 36 (by omega)
  refine ⟨⟨by rw [e]; exact w1, fun i hi => by rw [hk _ (by omega)]; exact w2 i (by omega)⟩, by rw [e]; exact h1, fun i hi => ?_⟩
  rw [hk _ (by omega), hk _ (by omega)]
  exact h2 i (by omega)
theorem WF.cg {A B : Nat → Nat} (w : WF A) (hk : ∀ k, k < 36 → B k = A k) : WF B := by
  obtain ⟨w1, w2, w3, w4, w5, w6, w7⟩ := w
  have e := hk 24 (by omega)
  unfold WF
  rw [e]
  refine ⟨w1, fun h hh => ?_, fun i hi => ?_, fun i j hi hj q => ?_, fun h hh => ?_, ?_, ?_⟩
  · rw [hk _ (by omega), hk _ (by omega), hk _ (by omega), hk _ (by omega)]; exact w2 h hh
  · rw [hk _ (by omega)]; exact w3 i hi
  · rw [hk _ (by omega), hk _ (by omega)] at q; exact w4 i j hi hj q
  · obtain ⟨i, hi, q⟩ := w5 h hh
    exact ⟨i, hi, by rw [hk _ (by omega)]; exact q⟩
  · rw [hk _ (by omega)]; exact w6
  · rw [hk _ (by omega)]; exact w7
theorem RX.cg {σ : Mem} {d : Nat} {A B : Nat → Nat} (h : RX σ d A) (hk : ∀ k, k < 36 → B k = A k) : RX σ d B := by
  obtain ⟨h0, h1, h2, h3, h4⟩ := h
  have w6 := h0.1
  have e := hk 24 (by omega)
  refine ⟨h0.cg hk, by rw [e]; exact h1, fun q w hq hw => ?_, fun i hi => ?_, fun k a b => ?_⟩
  · rw [e] at hq; rw [hk _ (by omega)]; exact h2 q w hq hw
  · rw [e] at hi; rw [hk _ (by omega)]; exact h3 i hi
  · rw [hk _ (by omega)]; exact h4 k a b
theorem Rl.cg {g : Nat → Int32} {A B : Nat → Nat} (h : Rl g A) (hk : ∀ k, k < 36 → B k = A k) : Rl g B := by
  obtain ⟨h0, h1, h2, h3, h4⟩ := h
  have w6 := h0.1
  have e := hk 24 (by omega)
  refine ⟨h0.cg hk, by rw [e]; exact h1, fun q w hq hw => ?_, fun i hi => ?_, fun k a b => ?_⟩
  · rw [e] at hq; rw [hk _ (by omega)]; exact h2 q w hq hw
  · rw [e] at hi; rw [hk _ (by omega)]; exact h3 i hi
  · rw [hk _ (by omega)]; exact h4 k a b
def KXi (σ : Mem) (J : Nat → Nat → Nat) (kp : Nat → Int32) : Prop := ∀ k, k < 2 → (kp k = 0 ∨ kp k = 1) ∧ σ.1 (30 + 11 * k) 2 = kp k ∧ (¬ kp k = 0 → RX σ (30 + 11 * k + 1) (J k) ∧ SX σ (30 + 11 * k + 8) (J k) ∧ J k 33 ≤ 999)
def KMi (σ : Mem) (J : Nat → Nat → Nat) (kp : Nat → Int32) : Prop := ∀ k, k < 2 → σ.1 67 k = kp k ∧ (¬ kp k = 0 → Rl (fun j => σ.1 65 (49 * (k + 1) + j)) (J k) ∧ SL (fun j => σ.1 65 (49 * (k + 1) + j)) (J k))
theorem KXi.fr {σ τ : Mem} {J : Nat → Nat → Nat} {kp : Nat → Int32} (h : KXi σ J kp) (hk : ∀ a b, 30 ≤ a → a < 52 → τ.1 a b = σ.1 a b) : KXi τ J kp := by
  intro k k2
  obtain ⟨a, b, c⟩ := h k k2
  refine ⟨a, by rw [hk _ _ (by omega) (by omega)]; exact b, fun q => ?_⟩
  obtain ⟨c1, c2, c3⟩ := c q
  exact ⟨c1.frame (fun x y q1 q2 => hk x y (by omega) (by omega)), c2.fr (fun x y q1 q2 => hk x y (by omega) (by omega)), c3⟩
theorem KMi.fr {σ τ : Mem} {J : Nat → Nat → Nat} {kp : Nat → Int32} (h : KMi σ J kp) (hk : ∀ b, 49 ≤ b → τ.1 65 b = σ.1 65 b) (h7 : ∀ b, τ.1 67 b = σ.1 67 b) : KMi τ J kp := by
  intro k k2
  obtain ⟨a, b⟩ := h k k2
  refine ⟨by rw [h7]; exact a, fun q => ?_⟩
  obtain ⟨b1, b2⟩ := b q
  exact ⟨b1.fr (fun j _ => hk _ (by omega)), b2.fr (fun j _ _ => hk _ (by omega))⟩
theorem TX.fr {σ τ : Mem} {T : Nat} {t : Nat → Nat} (h : TX σ T t) (h1 : τ.1 1 1 = σ.1 1 1) (h2 : ∀ b, τ.1 2 b = σ.1 2 b) : TX τ T t := ⟨h.1, by rw [h1]; exact h.2.1, fun i hi => by rw [h2]; exact h.2.2 i hi⟩
theorem TM.fr {σ τ : Mem} {T : Nat} {t : Nat → Nat} (h : TM σ T t) (h1 : τ.1 64 10 = σ.1 64 10) (h2 : ∀ b, τ.1 70 b = σ.1 70 b) : TM τ T t := ⟨h.1, by rw [h1]; exact h.2.1, fun i hi => by rw [h2]; exact h.2.2 i hi⟩
def IX (σ : Mem) (A : Nat → Nat) (J : Nat → Nat → Nat) (kp : Nat → Int32) (T : Nat) (t : Nat → Nat) (z : Nat → Nat) (ln : Nat → Int32) (ce : Nat → Nat → Int32) (f tn : Int32) : Prop :=
  RX σ 12 A ∧ SX σ 26 A ∧ A 33 ≤ 999 ∧ KXi σ J kp ∧ TX σ T t ∧ HX σ z ln ce ∧ σ.1 1 4 = f ∧ σ.1 0 9 = tn
def IM (σ : Mem) (A : Nat → Nat) (J : Nat → Nat → Nat) (kp : Nat → Int32) (T : Nat) (t : Nat → Nat) (z : Nat → Nat) (ln : Nat → Int32) (ce : Nat → Nat → Int32) (f tn : Int32) : Prop :=
  Rl (σ.1 65) A ∧ SL (σ.1 65) A ∧ KMi σ J kp ∧ TM σ T t ∧ HM σ z ln ce ∧ σ.1 64 15 = f ∧ σ.1 64 29 = tn
def Inv (σ : Mem) : Prop := ∃ (A : Nat → Nat) (J : Nat → Nat → Nat) (kp : Nat → Int32) (T : Nat) (t : Nat → Nat) (z : Nat → Nat) (ln : Nat → Int32) (ce : Nat → Nat → Int32) (f tn : Int32), IX σ A J kp T t z ln ce f tn ∧ IM σ A J kp T t z ln ce f tn
section II
variable {σ τ : Mem} {A B : Nat → Nat} {J : Nat → Nat → Nat} {kp : Nat → Int32} {T : Nat} {t : Nat → Nat} {z : Nat → Nat} {ln : Nat → Int32} {ce : Nat → Nat → Int32} {f tn : Int32}
theorem IX.up (h : IX σ A J kp T t z ln ce f tn) (hR : RX τ 12 B) (hS : SX τ 26 B) (h3 : B 33 ≤ 999) (hk : ∀ a b, ((a = 0 ∧ b = 9) ∨ (a = 1 ∧ (b = 1 ∨ b = 4)) ∨ a = 2 ∨ (30 ≤ a ∧ a < 61)) → τ.1 a b = σ.1 a b) : IX τ B J kp T t z ln ce f tn := by
  obtain ⟨h1, h2, h3', h4, h5, h6, h7, h8⟩ := h
  exact ⟨hR, hS, h3, h4.fr (fun a b q1 q2 => hk a b (by omega)), h5.fr (hk 1 1 (by omega)) (fun b => hk 2 b (by omega)), h6.fr (fun a b q1 q2 => hk a b (by omega)), by rw [hk 1 4 (by omega)]; exact h7, by rw [hk 0 9 (by omega)]; exact h8⟩
theorem IX.fr (h : IX σ A J kp T t z ln ce f tn) (hk : ∀ a b, ((a = 0 ∧ b = 9) ∨ (a = 1 ∧ (b = 1 ∨ b = 4)) ∨ a = 2 ∨ (12 ≤ a ∧ a < 19) ∨ (26 ≤ a ∧ a < 61)) → τ.1 a b = σ.1 a b) : IX τ A J kp T t z ln ce f tn :=
  h.up (h.1.frame (fun a b q1 q2 => hk a b (by omega))) (h.2.1.fr (fun a b q1 q2 => hk a b (by omega))) h.2.2.1 (fun a b q => hk a b (by omega))
theorem IX.kx (h : IX σ A J kp T t z ln ce f tn) (k : KX σ τ) : IX τ A J kp T t z ln ce f tn := h.fr (fun a b q => k.1 a b (by omega))
theorem IX.km (h : IX σ A J kp T t z ln ce f tn) (k : KM σ τ) : IX τ A J kp T t z ln ce f tn := h.fr (fun a b q => k a b (by omega) (by omega) (by omega) (by omega) (by omega) (by omega))
theorem IX.lo (h : IX σ A J kp T t z ln ce f tn) (k : ∀ a b, a < 64 → τ.1 a b = σ.1 a b) : IX τ A J kp T t z ln ce f tn := h.fr (fun a b q => k a b (by omega))
theorem IM.up (h : IM σ A J kp T t z ln ce f tn) (hR : Rl (τ.1 65) B) (hS : SL (τ.1 65) B) (h9 : ∀ b, 49 ≤ b → τ.1 65 b = σ.1 65 b) (hk : ∀ a b, ((a = 64 ∧ (b = 10 ∨ b = 15 ∨ b = 29)) ∨ a = 67 ∨ a = 70 ∨ a = 74 ∨ a = 75 ∨ a = 76) → τ.1 a b = σ.1 a b) : IM τ B J kp T t z ln ce f tn := by
  obtain ⟨h1, h2, h4, h5, h6, h7, h8⟩ := h
  exact ⟨hR, hS, h4.fr h9 (fun b => hk 67 b (by omega)), h5.fr (hk 64 10 (by omega)) (fun b => hk 70 b (by omega)), h6.fr (fun a b q1 q2 => hk a b (by omega)), by rw [hk 64 15 (by omega)]; exact h7, by rw [hk 64 29 (by omega)]; exact h8⟩
theorem IM.fr (h : IM σ A J kp T t z ln ce f tn) (hk : ∀ a b, ((a = 64 ∧ (b = 10 ∨ b = 15 ∨ b = 29)) ∨ a = 65 ∨ a = 67 ∨ a = 70 ∨ a = 74 ∨ a = 75 ∨ a = 76) → τ.1 a b = σ.1 a b) : IM τ A J kp T t z ln ce f tn :=
  h.up (h.1.fr (fun k _ => hk 65 k (by omega))) (h.2.1.fr (fun k _ _ => hk 65 k (by omega))) (fun b _ => hk 65 b (by omega)) (fun a b q => hk a b (by omega))
theorem IM.kx (h : IM σ A J kp T t z ln ce f tn) (k : KX σ τ) : IM τ A J kp T t z ln ce f tn := h.fr (fun a b q => k.1 a b (by omega))
theorem IM.km (h : IM σ A J kp T t z ln ce f tn) (k : KM σ τ) : IM τ A J kp T t z ln ce f tn := h.fr (fun a b q => k a b (by omega) (by omega) (by omega) (by omega) (by omega) (by omega))
theorem IM.hi (h : IM σ A J kp T t z ln ce f tn) (k : ∀ a b, 64 ≤ a → τ.1 a b = σ.1 a b) : IM τ A J kp T t z ln ce f tn := h.fr (fun a b q => k a b (by omega))
theorem inv_mk (h1 : IX σ A J kp T t z ln ce f tn) (h2 : IM σ A J kp T t z ln ce f tn) : Inv σ := ⟨A, J, kp, T, t, z, ln, ce, f, tn, h1, h2⟩
end II

theorem g_heir {a b : Int32} {σ : Mem} (h : Inv σ) : wp_X5_heir a b σ (fun r τ => wp_X6_heir a b τ (fun r' τ' => r = r' ∧ Inv τ')) := by
  obtain ⟨A, J, kp, T, t, z, ln, ce, f, tn, hX, hM⟩ := h
  exact x_heir hX.1 (m_heirA hM.1 (fun τ' km => ⟨rfl, inv_mk (hX.km km) (hM.km km)⟩))
theorem g_soonest {a : Int32} {σ : Mem} (h : Inv σ) : wp_X5_soonest a σ (fun r τ => wp_X6_soonest a τ (fun r' τ' => r = r' ∧ Inv τ')) := by
  obtain ⟨A, J, kp, T, t, z, ln, ce, f, tn, hX, hM⟩ := h
  exact x_soonest hX.1 (fun τ kx => m_soonest (hM.kx kx).1 (fun τ' km => ⟨rfl, inv_mk ((hX.kx kx).km km) ((hM.kx kx).km km)⟩))
theorem g_again {σ : Mem} (h : Inv σ) : wp_X5_again σ (fun r τ => wp_X6_again τ (fun r' τ' => r = r' ∧ Inv τ')) := by
  obtain ⟨A, J, kp, T, t, z, ln, ce, f, tn, hX, hM⟩ := h
  exact x_again hX.1 (fun τ kx => m_again (hM.kx kx).1 (fun τ' km => ⟨rfl, inv_mk ((hX.kx kx).km km) ((hM.kx kx).km km)⟩))
theorem g_ruins {σ : Mem} (h : Inv σ) : wp_X5_ruins σ (fun r τ => wp_X6_ruins τ (fun r' τ' => r = r' ∧ Inv τ')) := by
  obtain ⟨A, J, kp, T, t, z, ln, ce, f, tn, hX, hM⟩ := h
  exact x_ruins hX.1 (fun τ kx => m_ruins (hM.kx kx).1 (fun τ' km => ⟨rfl, inv_mk ((hX.kx kx).km km) ((hM.kx kx).km km)⟩))
theorem g_runs {a b : Int32} {σ : Mem} (h : Inv σ) : wp_X5_runs a b σ (fun r τ => wp_X6_runs a b τ (fun r' τ' => r = r' ∧ Inv τ')) := by
  obtain ⟨A, J, kp, T, t, z, ln, ce, f, tn, hX, hM⟩ := h
  exact x_runs hX.1 (fun τ kx => m_runs (hM.kx kx).1 (fun τ' km => ⟨rfl, inv_mk ((hX.kx kx).km km) ((hM.kx kx).km km)⟩))
theorem g_ahead {a b c : Int32} {σ : Mem} (h : Inv σ) : wp_X5_ahead a b c σ (fun r τ => wp_X6_ahead a b c τ (fun r' τ' => r = r' ∧ Inv τ')) := by
  obtain ⟨A, J, kp, T, t, z, ln, ce, f, tn, hX, hM⟩ := h
  exact x_ahead hX.1 (fun τ kx => m_ahead (hM.kx kx).1 (fun τ' km => ⟨rfl, inv_mk ((hX.kx kx).km km) ((hM.kx kx).km km)⟩))
theorem g_need {a : Int32} {σ : Mem} (h : Inv σ) : wp_X5_need a σ (fun r τ => wp_X6_need a τ (fun r' τ' => r = r' ∧ Inv τ')) := by
  obtain ⟨A, J, kp, T, t, z, ln, ce, f, tn, hX, hM⟩ := h
  exact x_need hX.1 (fun τ kx => m_need (hM.kx kx).1 (fun τ' km => ⟨rfl, inv_mk ((hX.kx kx).km km) ((hM.kx kx).km km)⟩))
theorem g_order {a b : Int32} {σ : Mem} (h : Inv σ) : wp_X5_order a b σ (fun r τ => wp_X6_order a b τ (fun r' τ' => r = r' ∧ Inv τ')) := by
  obtain ⟨A, J, kp, T, t, z, ln, ce, f, tn, hX, hM⟩ := h
  exact x_order hX.1 (fun τ kx => m_order (hM.kx kx).1 (fun τ' km => ⟨rfl, inv_mk ((hX.kx kx).km km) ((hM.kx kx).km km)⟩))
theorem g_stool {a b : Int32} {σ : Mem} (h : Inv σ) : wp_X5_stool a b σ (fun r τ => wp_X6_stool a b τ (fun r' τ' => r = r' ∧ Inv τ')) := by
  obtain ⟨A, J, kp, T, t, z, ln, ce, f, tn, hX, hM⟩ := h
  exact x_stool hX.1 (fun τ kx => m_stool (hM.kx kx).1 (fun τ' km => ⟨rfl, inv_mk ((hX.kx kx).km km) ((hM.kx kx).km km)⟩))
theorem g_term {a b c : Int32} {σ : Mem} (h : Inv σ) : wp_X5_term a b c σ (fun r τ => wp_X6_term a b c τ (fun r' τ' => r = r' ∧ Inv τ')) := by
  obtain ⟨A, J, kp, T, t, z, ln, ce, f, tn, hX, hM⟩ := h
  exact x_term hX.1 (fun τ kx => m_term (hM.kx kx).1 (fun τ' km => ⟨rfl, inv_mk ((hX.kx kx).km km) ((hM.kx kx).km km)⟩))
theorem g_ache {a b : Int32} {σ : Mem} (h : Inv σ) : wp_X5_ache a b σ (fun r τ => wp_X6_ache a b τ (fun r' τ' => r = r' ∧ Inv τ')) := by
  obtain ⟨A, J, kp, T, t, z, ln, ce, f, tn, hX, hM⟩ := h
  exact x_ache hX.1 (fun τ kx => m_ache (hM.kx kx).1 (fun τ' km => ⟨rfl, inv_mk ((hX.kx kx).km km) ((hM.kx kx).km km)⟩))
theorem g_builder {a b : Int32} {σ : Mem} (h : Inv σ) : wp_X5_builder a b σ (fun r τ => wp_X6_builder a b τ (fun r' τ' => r = r' ∧ Inv τ')) := by
  obtain ⟨A, J, kp, T, t, z, ln, ce, f, tn, hX, hM⟩ := h
  exact x_builder hX.1 (fun τ kx => m_builder (hM.kx kx).1 (fun τ' km => ⟨rfl, inv_mk ((hX.kx kx).km km) ((hM.kx kx).km km)⟩))
theorem g_luck {a b c d : Int32} {σ : Mem} (h : Inv σ) : wp_X5_luck a b c d σ (fun r τ => wp_X6_luck a b c d τ (fun r' τ' => r = r' ∧ Inv τ')) := by
  obtain ⟨A, J, kp, T, t, z, ln, ce, f, tn, hX, hM⟩ := h
  exact x_luck hX.1 (fun τ kx => m_luck (hM.kx kx).1 (fun τ' km => ⟨rfl, inv_mk ((hX.kx kx).km km) ((hM.kx kx).km km)⟩))
theorem g_mean {a b c : Int32} {σ : Mem} (h : Inv σ) : wp_X5_mean a b c σ (fun r τ => wp_X6_mean a b c τ (fun r' τ' => r = r' ∧ Inv τ')) := by
  obtain ⟨A, J, kp, T, t, z, ln, ce, f, tn, hX, hM⟩ := h
  exact x_mean hX.1 (fun τ kx => m_mean (hM.kx kx).1 (fun τ' km => ⟨rfl, inv_mk ((hX.kx kx).km km) ((hM.kx kx).km km)⟩))
theorem g_kinds {a : Int32} {σ : Mem} (h : Inv σ) : wp_X5_kinds a σ (fun r τ => wp_X6_kinds a τ (fun r' τ' => r = r' ∧ Inv τ')) := by
  obtain ⟨A, J, kp, T, t, z, ln, ce, f, tn, hX, hM⟩ := h
  exact x_kinds hX.1 hX.2.1 (fun τ kx => m_kinds (hM.kx kx).1 (hM.kx kx).2.1 (fun τ' km => ⟨rfl, inv_mk ((hX.kx kx).km km) ((hM.kx kx).km km)⟩))
theorem g_springs {a : Int32} {σ : Mem} (h : Inv σ) : wp_X5_springs a σ (fun r τ => wp_X6_springs a τ (fun r' τ' => r = r' ∧ Inv τ')) := by
  obtain ⟨A, J, kp, T, t, z, ln, ce, f, tn, hX, hM⟩ := h
  exact x_springs hX.1 hX.2.1 (fun τ kx => m_springs (hM.kx kx).1 (hM.kx kx).2.1 (fun τ' km => ⟨rfl, inv_mk ((hX.kx kx).km km) ((hM.kx kx).km km)⟩))
theorem g_ask {a b : Int32} {σ : Mem} (h : Inv σ) : wp_X5_ask a b σ (fun r τ => wp_X6_ask a b τ (fun r' τ' => r = r' ∧ Inv τ')) := by
  obtain ⟨A, J, kp, T, t, z, ln, ce, f, tn, hX, hM⟩ := h
  exact x_ask hX.1 hX.2.1 (fun τ kx => m_ask (hM.kx kx).1 (hM.kx kx).2.1 (fun τ' km => ⟨rfl, inv_mk ((hX.kx kx).km km) ((hM.kx kx).km km)⟩))
theorem g_drift {a b c : Int32} {σ : Mem} (h : Inv σ) : wp_X5_drift a b c σ (fun r τ => wp_X6_drift a b c τ (fun r' τ' => r = r' ∧ Inv τ')) := by
  obtain ⟨A, J, kp, T, t, z, ln, ce, f, tn, hX, hM⟩ := h
  exact x_drift hX.1 (fun τ kx => m_drift (hM.kx kx).1 (fun τ' km => ⟨rfl, inv_mk ((hX.kx kx).km km) ((hM.kx kx).km km)⟩))
theorem g_rule {a : Int32} {σ : Mem} (h : Inv σ) : wp_X5_rule a σ (fun r τ => wp_X6_rule a τ (fun r' τ' => r = r' ∧ Inv τ')) := by
  obtain ⟨A, J, kp, T, t, z, ln, ce, f, tn, hX, hM⟩ := h
  exact x_rule hX.1 (m_rule hM.1 ⟨rfl, inv_mk hX hM⟩)
theorem g_line {a : Int32} {σ : Mem} (h : Inv σ) : wp_X5_line a σ (fun r τ => wp_X6_line a τ (fun r' τ' => r = r' ∧ Inv τ')) := by
  obtain ⟨A, J, kp, T, t, z, ln, ce, f, tn, hX, hM⟩ := h
  exact x_line hX.1 (m_line hM.1 ⟨rfl, inv_mk hX hM⟩)
theorem g_fault {σ : Mem} (h : Inv σ) : wp_X5_fault σ (fun r τ => wp_X6_fault τ (fun r' τ' => r = r' ∧ Inv τ')) := by
  obtain ⟨A, J, kp, T, t, z, ln, ce, f, tn, hX, hM⟩ := h
  exact ⟨by rw [hX.2.2.2.2.2.2.1, hM.2.2.2.2.2.1], inv_mk hX hM⟩
theorem g_torn {σ : Mem} (h : Inv σ) : wp_X5_torn σ (fun r τ => wp_X6_torn τ (fun r' τ' => r = r' ∧ Inv τ')) := by
  obtain ⟨A, J, kp, T, t, z, ln, ce, f, tn, hX, hM⟩ := h
  exact ⟨by rw [hX.2.2.2.2.2.2.2, hM.2.2.2.2.2.2], inv_mk hX hM⟩
theorem g_count {a : Int32} {σ : Mem} (h : Inv σ) : wp_X5_count a σ (fun r τ => wp_X6_count a τ (fun r' τ' => r = r' ∧ Inv τ')) := by
  obtain ⟨A, J, kp, T, t, z, ln, ce, f, tn, hX, hM⟩ := h
  have k0 := hX.2.2.2.1 0 (by omega)
  have k1 := hX.2.2.2.1 1 (by omega)
  have m0 := (hM.2.2.1 0 (by omega)).1
  have m1 := (hM.2.2.1 1 (by omega)).1
  exact x_cnt (k0 := kp 0) (k1 := kp 1) hX.1 hX.2.1 hX.2.2.2.2.1 hX.2.2.2.2.2.1 k0.2.1 k0.1 k1.2.1 k1.1 (m_cnt (k0 := kp 0) (k1 := kp 1) hM.1 hM.2.1 hM.2.2.2.1 hM.2.2.2.2.1 m0 k0.1 m1 k1.1 (fun τ' km => ⟨rfl, inv_mk (hX.km km) (hM.km km)⟩))
theorem wc0_mk {v n : Nat} (h : v ≤ n) (hn : n < 2 ^ 31) : wc 0 (nI n) (nI v) := ⟨nI_pos' (by omega), nI_le h hn⟩
theorem wc1_mk {v n : Nat} (h1 : 1 ≤ v) (h : v ≤ n) (hn : n < 2 ^ 31) : wc 1 (nI n) (nI v) := ⟨nI_le (a := 1) h1 (by omega), nI_le h hn⟩
theorem tOK_mk {w v : Nat} (h : okT w v) : tOK (nI w) (nI v) := by
  rcases h with ⟨rfl, h⟩ | ⟨rfl, h⟩ | ⟨rfl, h1, h⟩ | ⟨rfl, h1, h⟩
  · exact Or.inl ⟨rfl, wc0_mk (n := 3) h (by omega)⟩
  · exact Or.inr (Or.inl ⟨rfl, wc0_mk (n := 20) h (by omega)⟩)
  · exact Or.inr (Or.inr (Or.inl ⟨rfl, wc1_mk (n := 20) h1 h (by omega)⟩))
  · exact Or.inr (Or.inr (Or.inr ⟨rfl, wc1_mk (n := 30) h1 h (by omega)⟩))
theorem inj {a b : Nat} (h : nI a = nI b) (ha : a < 2 ^ 31) (hb : b < 2 ^ 31) : a = b := (nI_eq ha hb).mp h
theorem g_alter {a b c : Int32} {σ : Mem} (h : Inv σ) : wp_X5_alter a b c σ (fun r τ => wp_X6_alter a b c τ (fun r' τ' => r = r' ∧ Inv τ')) := by
  obtain ⟨A, J, kp, T, t, z, ln, ce, f, tn, hX, hM⟩ := h
  have w6 := hX.1.1.1
  refine x_alter hX.1 (fun no => ?_) (fun j w v ea eb ec hj hv => ?_)
  · exact m_alter hM.1 (fun _ => ⟨rfl, inv_mk hX hM⟩) (fun j w v ea eb ec hj hv => absurd ⟨by rw [ea]; exact hc_nI w6 hj, by rw [eb, ec]; exact tOK_mk hv⟩ no)
  · have hw : w < 4 := by unfold okT at hv; omega
    have hM1 : IM (st1 σ (12 + 2 + w) j (nI v)) A J kp T t z ln ce f tn := hM.hi (fun x y q => mm1 (by omega))
    refine m_alter hM1.1 (fun no => absurd ⟨by rw [ea]; exact hc_nI w6 hj, by rw [eb, ec]; exact tOK_mk hv⟩ no) (fun j' w' v' ea' eb' ec' hj' hv' => ?_)
    have hv30 : v ≤ 30 ∧ v' ≤ 30 ∧ w' < 4 := by unfold okT at hv hv'; omega
    obtain rfl : j = j' := inj (ea.symm.trans ea') (by omega) (by omega)
    obtain rfl : w = w' := inj (eb.symm.trans eb') (by omega) (by omega)
    obtain rfl : v = v' := inj (ec.symm.trans ec') (by omega) (by omega)
    have hhi : ∀ k, 36 ≤ k → setA A (4 * j + w) v k = A k := fun k hk => setA_ne (by omega)
    refine ⟨rfl, inv_mk (hX.up (B := setA A (4 * j + w) v) ((hX.1.setT hj hv).frame (fun x y q1 q2 => mm1 (by omega))) ((hX.2.1.cg hhi).fr (fun x y q1 q2 => by rw [mm1 (by omega), mm1 (by omega)])) (by rw [setA_ne (by omega)]; exact hX.2.2.1) (fun x y q => by rw [mm1 (by omega), mm1 (by omega)])) (hM1.up (B := setA A (4 * j + w) v) (hM1.1.setT hj hv) ((hM1.2.1.cg hhi).fr (fun k q1 q2 => by rw [mm2 (by omega)])) (fun y q => mm2 (by omega)) (fun x y q => mm1 (by omega)))⟩
theorem g_lumbago {a : Int32} {σ : Mem} (h : Inv σ) : wp_X5_lumbago a σ (fun r τ => wp_X6_lumbago a τ (fun r' τ' => r = r' ∧ Inv τ')) := by
  obtain ⟨A, J, kp, T, t, z, ln, ce, f, tn, hX, hM⟩ := h
  refine x_lumb hX.1 (fun no => ?_) (fun v hv ea => ?_)
  · exact m_lumb hM.1 (fun _ => ⟨rfl, inv_mk hX hM⟩) (fun v hv ea => absurd (by rw [ea]; exact wc0_mk (n := 9) hv (by omega)) no)
  · have hM1 : IM (st1 σ 12 3 (nI v)) A J kp T t z ln ce f tn := hM.hi (fun x y q => mm1 (by omega))
    refine m_lumb hM1.1 (fun no => absurd (by rw [ea]; exact wc0_mk (n := 9) hv (by omega)) no) (fun v' hv' ea' => ?_)
    obtain rfl : v = v' := inj (ea.symm.trans ea') (by omega) (by omega)
    have hhi : ∀ k, 36 ≤ k → setA A 31 v k = A k := fun k hk => setA_ne (by omega)
    exact ⟨rfl, inv_mk (hX.up (B := setA A 31 v) ((hX.1.set31 hv).frame (fun x y q1 q2 => mm1 (by omega))) ((hX.2.1.cg hhi).fr (fun x y q1 q2 => by rw [mm1 (by omega), mm1 (by omega)])) (by rw [setA_ne (by omega)]; exact hX.2.2.1) (fun x y q => by rw [mm1 (by omega), mm1 (by omega)])) (hM1.up (B := setA A 31 v) (hM1.1.set31 hv) ((hM1.2.1.cg hhi).fr (fun k q1 q2 => by rw [mm2 (by omega)])) (fun y q => mm2 (by omega)) (fun x y q => mm1 (by omega)))⟩
theorem g_works {a : Int32} {σ : Mem} (h : Inv σ) : wp_X5_works a σ (fun r τ => wp_X6_works a τ (fun r' τ' => r = r' ∧ Inv τ')) := by
  obtain ⟨A, J, kp, T, t, z, ln, ce, f, tn, hX, hM⟩ := h
  refine x_wrk hX.1 (fun no => ?_) (fun v hv ea => ?_)
  · exact m_wrk hM.1 (fun _ => ⟨rfl, inv_mk hX hM⟩) (fun v hv ea => absurd (by rw [ea]; exact wc0_mk (n := 999) hv (by omega)) no)
  · have hM1 : IM (st1 σ 12 4 (nI v)) A J kp T t z ln ce f tn := hM.hi (fun x y q => mm1 (by omega))
    refine m_wrk hM1.1 (fun no => absurd (by rw [ea]; exact wc0_mk (n := 999) hv (by omega)) no) (fun v' hv' ea' => ?_)
    obtain rfl : v = v' := inj (ea.symm.trans ea') (by omega) (by omega)
    have hhi : ∀ k, 36 ≤ k → setA A 32 v k = A k := fun k hk => setA_ne (by omega)
    exact ⟨rfl, inv_mk (hX.up (B := setA A 32 v) ((hX.1.set32 hv).frame (fun x y q1 q2 => mm1 (by omega))) ((hX.2.1.cg hhi).fr (fun x y q1 q2 => by rw [mm1 (by omega), mm1 (by omega)])) (by rw [setA_ne (by omega)]; exact hX.2.2.1) (fun x y q => by rw [mm1 (by omega), mm1 (by omega)])) (hM1.up (B := setA A 32 v) (hM1.1.set32 hv) ((hM1.2.1.cg hhi).fr (fun k q1 q2 => by rw [mm2 (by omega)])) (fun y q => mm2 (by omega)) (fun x y q => mm1 (by omega)))⟩
theorem g_change {a b : Int32} {σ : Mem} (h : Inv σ) : wp_X5_change a b σ (fun r τ => wp_X6_change a b τ (fun r' τ' => r = r' ∧ Inv τ')) := by
  obtain ⟨A, J, kp, T, t, z, ln, ce, f, tn, hX, hM⟩ := h
  have w6 := hX.1.1.1
  have yes : ∀ i k, i < A 24 → k < A 24 → i ≠ k → a = nI i → b = nI k → hc A a ∧ hc A b ∧ ¬ a = b := fun i k hi hk hik ea eb => ⟨by rw [ea]; exact hc_nI w6 hi, by rw [eb]; exact hc_nI w6 hk, fun q => hik (inj (by rw [← ea, ← eb]; exact q) (by omega) (by omega))⟩
  refine x_change hX.1 (fun no => ?_) (fun i k hi hk hik ea eb τ t1 t2 t3 => ?_)
  · exact m_change hM.1 (fun _ => ⟨rfl, inv_mk hX hM⟩) (fun i k hi hk hik ea eb => absurd (yes i k hi hk hik ea eb) no)
  · have hM1 : IM τ A J kp T t z ln ce f tn := hM.hi (fun x y q => t2 x y (by omega))
    refine m_change hM1.1 (fun no => absurd (yes i k hi hk hik ea eb) no) (fun i' k' hi' hk' hik' ea' eb' υ u1 u2 u3 => ?_)
    obtain rfl : i = i' := inj (ea.symm.trans ea') (by omega) (by omega)
    obtain rfl : k = k' := inj (eb.symm.trans eb') (by omega) (by omega)
    have hhi : ∀ q, 36 ≤ q → swpA A i k q = A q := fun q hq => swp_o (by omega) (by omega) (by omega)
    exact ⟨rfl, inv_mk (hX.up (t1.frame (fun x y q1 q2 => u2 x y (by omega))) ((hX.2.1.cg hhi).fr (fun x y q1 q2 => by rw [u2 x y (by omega), t2 x y (by omega)])) (by rw [swp_o (by omega) (by omega) (by omega)]; exact hX.2.2.1) (fun x y q => by rw [u2 x y (by omega), t2 x y (by omega)])) (hM1.up u1 ((hM1.2.1.cg hhi).fr (fun q q1 q2 => u3 q (by omega))) (fun y q => u3 y (by omega)) (fun x y q => u2 x y (by omega)))⟩
theorem g_bear {a b c : Int32} {σ : Mem} (h : Inv σ) : wp_X5_bear a b c σ (fun r τ => wp_X6_bear a b c τ (fun r' τ' => r = r' ∧ Inv τ')) := by
  obtain ⟨A, J, kp, T, t, z, ln, ce, f, tn, hX, hM⟩ := h
  have w6 := hX.1.1.1
  have yes : ∀ s u t, a = nI s → b = nI u → c = nI t → s ≤ 20 → (1 ≤ u ∧ u ≤ 20) → (1 ≤ t ∧ t ≤ 30) → bearOK a b c := fun s u t ea eb ec hs hu ht => ⟨by rw [ea]; exact tOK_mk (w := 1) (Or.inr (Or.inl ⟨rfl, hs⟩)), by rw [eb]; exact tOK_mk (w := 2) (Or.inr (Or.inr (Or.inl ⟨rfl, hu⟩))), by rw [ec]; exact tOK_mk (w := 3) (Or.inr (Or.inr (Or.inr ⟨rfl, ht⟩)))⟩
  refine x_bear hX.1 (fun no => ?_) (fun ok full => ?_) (fun s u v ea eb ec hs hu hv h6 τ t1 t2 t3 => ?_)
  · exact m_bear hM.1 (fun _ => ⟨rfl, inv_mk hX hM⟩) (fun ok _ => absurd ok no) (fun s u v ea eb ec hs hu hv _ => absurd (yes s u v ea eb ec hs hu hv) no)
  · exact m_bear hM.1 (fun no => absurd ok no) (fun _ _ => ⟨rfl, inv_mk hX hM⟩) (fun s u v ea eb ec hs hu hv h6 => by omega)
  · have hM1 : IM τ A J kp T t z ln ce f tn := hM.hi (fun x y q => t2 x y (by omega))
    refine m_bear hM1.1 (fun no => absurd (yes s u v ea eb ec hs hu hv) no) (fun _ q => by omega) (fun s' u' v' ea' eb' ec' hs' hu' hv' h6' υ u1 u2 u3 => ?_)
    obtain rfl : s = s' := inj (ea.symm.trans ea') (by omega) (by omega)
    obtain rfl : u = u' := inj (eb.symm.trans eb') (by omega) (by omega)
    obtain rfl : v = v' := inj (ec.symm.trans ec') (by omega) (by omega)
    have hhi : ∀ q, 36 ≤ q → addA A 0 s u v q = A q := fun q hq => add_o h6 (by omega)
    exact ⟨rfl, inv_mk (hX.up (t1.frame (fun x y q1 q2 => u2 x y (by omega))) ((hX.2.1.cg hhi).fr (fun x y q1 q2 => by rw [u2 x y (by omega), t2 x y (by omega)])) (by rw [add_o h6 (by omega)]; exact hX.2.2.1) (fun x y q => by rw [u2 x y (by omega), t2 x y (by omega)])) (hM1.up u1 ((hM1.2.1.cg hhi).fr (fun q q1 q2 => u3 q (by omega))) (fun y q => u3 y (by omega)) (fun x y q => u2 x y (by omega)))⟩
theorem it_33 {A : Nat → Nat} (w : WF A) (h2 : 2 ≤ A 24) : ∀ n, itA n A 33 = A 33 + n ∧ ∀ k, 36 ≤ k → itA n A k = A k := by
  intro n
  induction n with
  | zero => exact ⟨rfl, fun _ _ => rfl⟩
  | succ n ih =>
    obtain ⟨w1, w2⟩ := it_wf w h2 n
    refine ⟨?_, fun k hk => ?_⟩
    · show crA (itA n A) false 33 = A 33 + (n + 1)
      rw [crA_33 w1 (by omega), ih.1]
      omega
    · show crA (itA n A) false k = A k
      rw [crA_hi w1 (by omega) hk, ih.2 k hk]
theorem g_reigns {a : Int32} {σ : Mem} (h : Inv σ) : wp_X5_reigns a σ (fun r τ => wp_X6_reigns a τ (fun r' τ' => r = r' ∧ Inv τ')) := by
  obtain ⟨A, J, kp, T, t, z, ln, ce, f, tn, hX, hM⟩ := h
  refine x_reigns hX.1 (fun no => ?_) (fun ok h2 => ?_) (fun ok h2 no => ?_) (fun n hn ea h2 ok τ t1 t2 t3 => ?_)
  · exact m_reigns hM.1 (fun _ => ⟨rfl, inv_mk hX hM⟩) (fun ok _ => absurd ok no) (fun ok _ _ => absurd ok no) (fun n hn ea _ _ => absurd (by rw [ea]; exact wc0_mk (n := 30) hn (by omega)) no)
  · exact m_reigns hM.1 (fun no => absurd ok no) (fun _ _ => ⟨rfl, inv_mk hX hM⟩) (fun _ q _ => by omega) (fun n hn ea q _ => by omega)
  · exact m_reigns hM.1 (fun no => absurd ok no) (fun _ q => by omega) (fun _ _ _ => ⟨rfl, inv_mk hX hM⟩) (fun n hn ea _ q => absurd q no)
  · have hM1 : IM τ A J kp T t z ln ce f tn := hM.hi (fun x y q => t2 x y (by omega))
    have h30 : wc 0 30 a := by rw [ea]; exact wc0_mk (n := 30) hn (by omega)
    refine m_reigns hM1.1 (fun no => absurd h30 no) (fun _ q => by omega) (fun _ _ q => absurd ok q) (fun n' hn' ea' _ _ υ u1 u2 u3 => ?_)
    obtain rfl : n = n' := inj (ea.symm.trans ea') (by omega) (by omega)
    obtain ⟨i1, i2⟩ := it_33 hX.1.1 h2 n
    have h33 := hX.2.2.1
    have h3 : itA n A 33 ≤ 999 := by
      unfold rgOK at ok
      rw [ea, nI_add, show (999 : Int32) = nI 999 from rfl, nI_leI (by omega) (by omega)] at ok
      omega
    exact ⟨rfl, inv_mk (hX.up (t1.frame (fun x y q1 q2 => u3 x y (by omega) (by omega) (by omega))) ((hX.2.1.cg i2).fr (fun x y q1 q2 => by rw [u3 x y (by omega) (by omega) (by omega), t2 x y (by omega)])) h3 (fun x y q => by rw [u3 x y (by omega) (by omega) (by omega), t2 x y (by omega)])) (hM1.up u1 ((hM1.2.1.cg i2).fr (fun q q1 q2 => u2 q (by omega))) (fun y q => u2 y (by omega)) (fun x y q => u3 x y (by omega) (by omega) (by omega)))⟩
theorem g_see {a b : Int32} {σ : Mem} (h : Inv σ) : wp_X5_see a b σ (fun r τ => wp_X6_see a b τ (fun r' τ' => r = r' ∧ Inv τ')) := by
  obtain ⟨A, J, kp, T, t, z, ln, ce, f, tn, hX, hM⟩ := h
  have w6 := hX.1.1.1
  have yes : ∀ n h, a = nI n → b = nI h → 1 ≤ n ∧ n ≤ 20 → h < A 24 → wc 1 20 a ∧ hc A b := fun n h ea eb hn hh => ⟨by rw [ea]; exact wc1_mk (n := 20) hn.1 hn.2 (by omega), by rw [eb]; exact hc_nI w6 hh⟩
  refine x_see hX.1 hX.2.1 (fun no => ?_) (fun ok full => ?_) (fun n h ea eb hn hh h6 τ t1 t2 t3 => ?_)
  · exact m_see hM.1 hM.2.1 (fun _ => ⟨rfl, inv_mk hX hM⟩) (fun ok _ => absurd ok no) (fun n h ea eb hn hh _ => absurd (yes n h ea eb hn hh) no)
  · exact m_see hM.1 hM.2.1 (fun no => absurd ok no) (fun _ _ => ⟨rfl, inv_mk hX hM⟩) (fun n h ea eb hn hh h6 => by omega)
  · have hM1 : IM τ A J kp T t z ln ce f tn := hM.hi (fun x y q => t2 x y (by omega))
    refine m_see hM1.1 hM1.2.1 (fun no => absurd (yes n h ea eb hn hh) no) (fun _ q => by omega) (fun n' h' ea' eb' hn' hh' _ υ u1 u2 u3 => ?_)
    obtain rfl : n = n' := inj (ea.symm.trans ea') (by omega) (by omega)
    obtain rfl : h = h' := inj (eb.symm.trans eb') (by omega) (by omega)
    have hlo : ∀ k, k < 36 → seeA A n h k = A k := fun k hk => see_lo hk
    exact ⟨rfl, inv_mk (hX.up ((hX.1.cg hlo).frame (fun x y q1 q2 => by rw [u3 x y (by omega), t2 x y (by omega)])) (t1.fr (fun x y q1 q2 => u3 x y (by omega))) (by rw [see_lo (by omega)]; exact hX.2.2.1) (fun x y q => by rw [u3 x y (by omega), t2 x y (by omega)])) (hM1.up ((hM1.1.cg hlo).fr (fun k hk => u2 k (by omega))) u1 (fun y q => u2 y (by omega)) (fun x y q => u3 x y (by omega)))⟩
theorem g_forget {a : Int32} {σ : Mem} (h : Inv σ) : wp_X5_forget a σ (fun r τ => wp_X6_forget a τ (fun r' τ' => r = r' ∧ Inv τ')) := by
  obtain ⟨A, J, kp, T, t, z, ln, ce, f, tn, hX, hM⟩ := h
  have s6 := hX.2.1.1.1
  refine x_forget hX.2.1 (fun no => ?_) (fun n hn ea => ?_)
  · exact m_forget hM.2.1 (fun _ => ⟨rfl, inv_mk hX hM⟩) (fun n hn ea => absurd (by rw [ea]; exact wc0_mk hn (by omega)) no)
  · have hM1 : IM (st1 σ 26 2 (nI n)) A J kp T t z ln ce f tn := hM.hi (fun x y q => mm1 (by omega))
    refine m_forget hM1.2.1 (fun no => absurd (by rw [ea]; exact wc0_mk hn (by omega)) no) (fun n' hn' ea' => ?_)
    obtain rfl : n = n' := inj (ea.symm.trans ea') (by omega) (by omega)
    have hlo : ∀ k, k < 36 → setA A 36 n k = A k := fun k hk => setA_ne (by omega)
    obtain ⟨sw, s1, s2⟩ := hX.2.1
    obtain ⟨lw, l1, l2⟩ := hM1.2.1
    refine ⟨rfl, inv_mk (hX.up (B := setA A 36 n) ((hX.1.cg hlo).frame (fun x y q1 q2 => by rw [mm1 (by omega), mm1 (by omega)])) ⟨fgt_ws sw hn, ?_, fun i hi => ?_⟩ (by rw [setA_ne (by omega)]; exact hX.2.2.1) (fun x y q => by rw [mm1 (by omega), mm1 (by omega)])) (hM1.up (B := setA A 36 n) ((hM1.1.cg hlo).fr (fun k hk => mm2 (by omega))) ⟨fgt_ws lw hn, ?_, fun i hi => ?_⟩ (fun y q => mm2 (by omega)) (fun x y q => mm1 (by omega)))⟩
    · rw [mm1 (by omega), mm3, setA_eq]
    · rw [setA_eq] at hi
      rw [mm1 (by omega), mm1 (by omega), mm1 (by omega), mm1 (by omega), setA_ne (by omega), setA_ne (by omega)]
      exact s2 i (by omega)
    · rw [mm3, setA_eq]
    · rw [setA_eq] at hi
      have l3 := l2 i (by omega)
      exact ⟨by rw [mm2 (by omega), setA_ne (by omega)]; exact l3.1, by rw [mm2 (by omega), setA_ne (by omega)]; exact l3.2⟩
theorem g_feed {a : Int32} {σ : Mem} (h : Inv σ) : wp_X5_feed a σ (fun r τ => wp_X6_feed a τ (fun r' τ' => r = r' ∧ Inv τ')) := by
  obtain ⟨A, J, kp, T, t, z, ln, ce, f, tn, hX, hM⟩ := h
  have hT := hX.2.2.2.2.1
  refine x_feed hT (fun no => ?_) (fun ok full => ?_) (fun c hc ea hT2 τ t1 t2 t3 => ?_)
  · exact m_feed hM.2.2.2.1 (fun _ => ⟨rfl, inv_mk hX hM⟩) (fun ok _ => absurd ok no) (fun c hc ea _ => absurd (by rw [ea]; exact wc0_mk (n := 127) hc (by omega)) no)
  · exact m_feed hM.2.2.2.1 (fun no => absurd ok no) (fun _ _ => ⟨rfl, inv_mk hX hM⟩) (fun c hc ea q => by omega)
  · have hM1 : IM τ A J kp T t z ln ce f tn := hM.hi (fun x y q => t2 x y (by omega) (by omega))
    have h127 : wc 0 127 a := by rw [ea]; exact wc0_mk (n := 127) hc (by omega)
    refine m_feed hM1.2.2.2.1 (fun no => absurd h127 no) (fun _ q => by omega) (fun c' hc' ea' _ υ u1 u2 => ?_)
    obtain rfl : c = c' := inj (ea.symm.trans ea') (by omega) (by omega)
    obtain ⟨x1, x2, x3, x4, -, x6, x7, x8⟩ := hX
    obtain ⟨y1, y2, y3, -, y5, y6, y7⟩ := hM1
    refine ⟨rfl, A, J, kp, T + 1, setA t T c, z, ln, ce, f, tn, ⟨?_, ?_, x3, ?_, ?_, ?_, ?_, ?_⟩, ⟨?_, ?_, ?_, u1, ?_, ?_, ?_⟩⟩
    · exact x1.frame (fun x y q1 q2 => by rw [u2 x y (by omega) (by omega), t2 x y (by omega) (by omega)])
    · exact x2.fr (fun x y q1 q2 => by rw [u2 x y (by omega) (by omega), t2 x y (by omega) (by omega)])
    · exact x4.fr (fun x y q1 q2 => by rw [u2 x y (by omega) (by omega), t2 x y (by omega) (by omega)])
    · exact t1.fr (u2 1 1 (by omega) (by omega)) (fun y => u2 2 y (by omega) (by omega))
    · exact x6.fr (fun x y q1 q2 => by rw [u2 x y (by omega) (by omega), t2 x y (by omega) (by omega)])
    · rw [u2 1 4 (by omega) (by omega), t2 1 4 (by omega) (by omega)]; exact x7
    · rw [u2 0 9 (by omega) (by omega), t2 0 9 (by omega) (by omega)]; exact x8
    · exact y1.fr (fun k _ => u2 65 k (by omega) (by omega))
    · exact y2.fr (fun k _ _ => u2 65 k (by omega) (by omega))
    · exact y3.fr (fun k _ => u2 65 k (by omega) (by omega)) (fun k => u2 67 k (by omega) (by omega))
    · exact y5.fr (fun x y q1 q2 => u2 x y (by omega) (by omega))
    · rw [u2 64 15 (by omega) (by omega)]; exact y6
    · rw [u2 64 29 (by omega) (by omega)]; exact y7
theorem g_end {a : Int32} {σ : Mem} (h : Inv σ) : wp_X5_end a σ (fun r τ => wp_X6_end a τ (fun r' τ' => r = r' ∧ Inv τ')) := by
  obtain ⟨A, J, kp, T, t, z, ln, ce, f, tn, hX, hM⟩ := h
  have hT := hX.2.2.2.2.1
  have T6 := hT.1
  refine x_end hT (fun no => ?_) (fun n hn ea => ?_)
  · exact m_end hM.2.2.2.1 (fun _ => ⟨rfl, inv_mk hX hM⟩) (fun n hn ea => absurd (by rw [ea]; exact wc0_mk hn (by omega)) no)
  · have hM1 : IM (st1 σ 1 1 (nI n)) A J kp T t z ln ce f tn := hM.hi (fun x y q => mm1 (by omega))
    refine m_end hM1.2.2.2.1 (fun no => absurd (by rw [ea]; exact wc0_mk hn (by omega)) no) (fun n' hn' ea' => ?_)
    obtain rfl : n = n' := inj (ea.symm.trans ea') (by omega) (by omega)
    obtain ⟨x1, x2, x3, x4, x5, x6, x7, x8⟩ := hX
    obtain ⟨y1, y2, y3, y4, y5, y6, y7⟩ := hM1
    refine ⟨rfl, A, J, kp, n, t, z, ln, ce, f, tn, ⟨?_, ?_, x3, ?_, ⟨by omega, ?_, fun i hi => ?_⟩, ?_, ?_, ?_⟩, ⟨?_, ?_, ?_, ⟨by omega, mm3, fun i hi => ?_⟩, ?_, ?_, ?_⟩⟩
    · exact x1.frame (fun x y q1 q2 => by rw [mm1 (by omega), mm1 (by omega)])
    · exact x2.fr (fun x y q1 q2 => by rw [mm1 (by omega), mm1 (by omega)])
    · exact x4.fr (fun x y q1 q2 => by rw [mm1 (by omega), mm1 (by omega)])
    · rw [mm1 (by omega), mm3]
    · rw [mm1 (by omega), mm1 (by omega)]; exact x5.2.2 i (by omega)
    · exact x6.fr (fun x y q1 q2 => by rw [mm1 (by omega), mm1 (by omega)])
    · rw [mm1 (by omega), mm2 (by omega)]; exact x7
    · rw [mm1 (by omega), mm1 (by omega)]; exact x8
    · exact y1.fr (fun k _ => mm1 (by omega))
    · exact y2.fr (fun k _ _ => mm1 (by omega))
    · exact y3.fr (fun k _ => mm1 (by omega)) (fun k => mm1 (by omega))
    · rw [mm1 (by omega)]; exact y4.2.2 i (by omega)
    · exact y5.fr (fun x y q1 q2 => mm1 (by omega))
    · rw [mm2 (by omega)]; exact y6
    · rw [mm2 (by omega)]; exact y7
theorem g_text {σ : Mem} (h : Inv σ) : wp_X5_text σ (fun r τ => wp_X6_text τ (fun r' τ' => r = r' ∧ Inv τ')) := by
  obtain ⟨A, J, kp, T, t, z, ln, ce, f, tn, hX, hM⟩ := h
  refine x_text hX.2.2.2.2.1 (fun e he τ t1 t2 t3 t4 => ?_) (fun S l he τ t1 t2 t3 t4 t5 t6 t7 t8 => ?_)
  · have hM1 : IM τ A J kp T t z ln ce f tn := hM.fr (fun x y q => t3 x y (by omega))
    refine m_text hM1.2.2.2.1 (fun e' he' υ u1 u2 u3 => ?_) (fun S l he' => ?_)
    · rw [he] at he'
      cases he'
      obtain ⟨x1, x2, x3, x4, x5, x6, x7, x8⟩ := hX
      obtain ⟨y1, y2, y3, y4, y5, y6, y7⟩ := hM1
      refine ⟨rfl, A, J, kp, 0, t, z, ln, ce, nI e.1, tn, ⟨?_, ?_, x3, ?_, ⟨by omega, ?_, fun i hi => absurd hi (Nat.not_lt_zero i)⟩, ?_, ?_, ?_⟩, ⟨?_, ?_, ?_, ⟨by omega, u2, fun i hi => absurd hi (Nat.not_lt_zero i)⟩, ?_, u1, ?_⟩⟩
      · exact x1.frame (fun x y q1 q2 => by rw [u3 x y (by omega) (by omega) (by omega), t3 x y (by omega)])
      · exact x2.fr (fun x y q1 q2 => by rw [u3 x y (by omega) (by omega) (by omega), t3 x y (by omega)])
      · exact x4.fr (fun x y q1 q2 => by rw [u3 x y (by omega) (by omega) (by omega), t3 x y (by omega)])
      · rw [u3 1 1 (by omega) (by omega) (by omega)]; exact t2
      · exact x6.fr (fun x y q1 q2 => by rw [u3 x y (by omega) (by omega) (by omega), t3 x y (by omega)])
      · rw [u3 1 4 (by omega) (by omega) (by omega)]; exact t1
      · rw [u3 0 9 (by omega) (by omega) (by omega), t3 0 9 (by omega)]; exact x8
      · exact y1.fr (fun k _ => u3 65 k (by omega) (by omega) (by omega))
      · exact y2.fr (fun k _ _ => u3 65 k (by omega) (by omega) (by omega))
      · exact y3.fr (fun k _ => u3 65 k (by omega) (by omega) (by omega)) (fun k => u3 67 k (by omega) (by omega) (by omega))
      · exact y5.fr (fun x y q1 q2 => u3 x y (by omega) (by omega) (by omega))
      · rw [u3 64 29 (by omega) (by omega) (by omega)]; exact y7
    · rw [he] at he'
      cases he'
  · have hM1 : IM τ A J kp T t z ln ce f tn := hM.fr (fun x y q => t7 x y (by omega) (by omega))
    refine m_text hM1.2.2.2.1 (fun e' he' => ?_) (fun S' l' he' υ u1 u2 u3 u4 u5 u6 u7 u8 => ?_)
    · rw [he] at he'
      cases he'
    · rw [he] at he'
      cases he'
      obtain ⟨pI, -, -⟩ := fin_ok he
      have p36 : finA S 36 = 0 := by rw [finA_o (by omega)]; exact pI.2.2.2.2.2.2.2 36 (by omega) (by omega)
      have p33 : finA S 33 = 0 := by rw [finA_o (by omega)]; exact pI.2.2.2.2.2.2.2 33 (by omega) (by omega)
      have ws : WS (finA S) := ⟨by omega, fun i hi => by omega⟩
      obtain ⟨x1, x2, x3, x4, x5, x6, x7, x8⟩ := hX
      obtain ⟨y1, y2, y3, y4, y5, y6, y7⟩ := hM1
      have lo : ∀ x y, x < 64 → υ.1 x y = τ.1 x y := fun x y q => u8 x y (by omega) (by omega) (by omega) (by omega) (by omega)
      refine ⟨rfl, finA S, J, fun _ => 0, 0, t, z, ln, ce, 0, tn, ⟨?_, ⟨ws, ?_, fun i hi => by omega⟩, by omega, fun k hk => ⟨Or.inl rfl, ?_, fun q => absurd rfl q⟩, ⟨by omega, ?_, fun i hi => absurd hi (Nat.not_lt_zero i)⟩, ?_, ?_, ?_⟩, ⟨u1, ⟨ws, ?_, fun i hi => by omega⟩, fun k hk => ⟨?_, fun q => absurd rfl q⟩, ⟨by omega, u7, fun i hi => absurd hi (Nat.not_lt_zero i)⟩, ?_, u6, ?_⟩⟩
      · exact t1.frame (fun x y q1 q2 => lo x y (by omega))
      · rw [lo 26 2 (by omega), t4, p36]; rfl
      · rcases (show k = 0 ∨ k = 1 by omega) with rfl | rfl
        · rw [lo _ _ (by omega)]; exact t5
        · rw [lo _ _ (by omega)]; exact t6
      · rw [lo 1 1 (by omega)]; exact t3
      · exact x6.fr (fun x y q1 q2 => by rw [lo x y (by omega), t7 x y (by omega) (by omega)])
      · rw [lo 1 4 (by omega)]; exact t2
      · rw [lo 0 9 (by omega), t7 0 9 (by omega) (by omega)]; exact x8
      · rw [u2, p36]; rfl
      · rcases (show k = 0 ∨ k = 1 by omega) with rfl | rfl
        · exact u4
        · exact u5
      · exact y5.fr (fun x y q1 q2 => u8 x y (by omega) (by omega) (by omega) (by omega) (by omega))
      · rw [u8 64 29 (by omega) (by omega) (by omega) (by omega) (by omega)]; exact y7
theorem g_keep {a : Int32} {σ : Mem} (h : Inv σ) : wp_X5_keep a σ (fun r τ => wp_X6_keep a τ (fun r' τ' => r = r' ∧ Inv τ')) := by
  obtain ⟨A, J, kp, T, t, z, ln, ce, f, tn, hX, hM⟩ := h
  have hb : ∀ k, k ≤ 1 → (σ.1 (30 + 11 * k) 2 = 0 ∨ σ.1 (30 + 11 * k) 2 = 1) := fun k hk => by
    obtain ⟨a1, a2, -⟩ := hX.2.2.2.1 k (by omega)
    rw [a2]; exact a1
  have hbm : ∀ τ : Mem, IM τ A J kp T t z ln ce f tn → ∀ k, k ≤ 1 → (τ.1 67 k = 0 ∨ τ.1 67 k = 1) := fun τ h k hk => by
    rw [(h.2.2.1 k (by omega)).1]
    exact (hX.2.2.2.1 k (by omega)).1
  refine x_keep hX.1 hX.2.1 (fun no => ?_) (fun k hk ea _ τ t1 t2 t3 t4 t5 => ?_) hb
  · exact m_keep (fun _ => ⟨rfl, inv_mk hX hM⟩) (fun k hk ea => absurd (by rw [ea]; exact wc0_mk (n := 1) hk (by omega)) no) (hbm σ hM)
  · have hM1 : IM τ A J kp T t z ln ce f tn := hM.hi (fun x y q => t4 x y (by omega))
    refine m_keep (fun no => absurd (by rw [ea]; exact wc0_mk (n := 1) hk (by omega)) no) (fun k' hk' ea' υ u1 u2 u3 u4 u5 => ?_) (hbm τ hM1)
    obtain rfl : k = k' := inj (ea.symm.trans ea') (by omega) (by omega)
    obtain ⟨x1, x2, x3, x4, x5, x6, x7, x8⟩ := hX
    obtain ⟨y1, y2, y3, y4, y5, y6, y7⟩ := hM1
    refine ⟨by rw [(x4 k (by omega)).2.1, (y3 k (by omega)).1], A, upF J k A, upF kp k 1, T, t, z, ln, ce, f, tn, ⟨?_, ?_, x3, fun q hq => ?_, ?_, ?_, ?_, ?_⟩, ⟨?_, ?_, fun q hq => ?_, ?_, ?_, ?_, ?_⟩⟩
    · exact x1.frame (fun x y q1 q2 => by rw [u5 x y (by omega) (by omega), t4 x y (by omega)])
    · exact x2.fr (fun x y q1 q2 => by rw [u5 x y (by omega) (by omega), t4 x y (by omega)])
    · by_cases e : q = k
      · subst e
        rw [up_eq, up_eq]
        refine ⟨Or.inr rfl, by rw [u5 _ _ (by omega) (by omega)]; exact t3, fun _ => ⟨t1.frame (fun x y q1 q2 => u5 x y (by omega) (by omega)), t2.fr (fun x y q1 q2 => u5 x y (by omega) (by omega)), x3⟩⟩
      · rw [up_ne e, up_ne e]
        obtain ⟨a1, a2, a3⟩ := x4 q hq
        refine ⟨a1, by rw [u5 _ _ (by omega) (by omega), t4 _ _ (by omega)]; exact a2, fun w => ?_⟩
        obtain ⟨b1, b2, b3⟩ := a3 w
        exact ⟨b1.frame (fun x y q1 q2 => by rw [u5 x y (by omega) (by omega), t4 x y (by omega)]), b2.fr (fun x y q1 q2 => by rw [u5 x y (by omega) (by omega), t4 x y (by omega)]), b3⟩
    · exact x5.fr (by rw [u5 _ _ (by omega) (by omega), t4 _ _ (by omega)]) (fun y => by rw [u5 _ _ (by omega) (by omega), t4 _ _ (by omega)])
    · exact x6.fr (fun x y q1 q2 => by rw [u5 x y (by omega) (by omega), t4 x y (by omega)])
    · rw [u5 _ _ (by omega) (by omega), t4 _ _ (by omega)]; exact x7
    · rw [u5 _ _ (by omega) (by omega), t4 _ _ (by omega)]; exact x8
    · exact y1.fr (fun j hj => u2 j (by omega))
    · exact y2.fr (fun j _ hj => u2 j (by omega))
    · by_cases e : q = k
      · subst e
        rw [up_eq, up_eq]
        exact ⟨u3, fun _ => ⟨y1.fr (fun j hj => u1 j (by omega)), y2.fr (fun j _ hj => u1 j (by omega))⟩⟩
      · rw [up_ne e, up_ne e]
        obtain ⟨a1, a2⟩ := y3 q hq
        refine ⟨by rw [u4 q e]; exact a1, fun w => ?_⟩
        obtain ⟨b1, b2⟩ := a2 w
        exact ⟨b1.fr (fun j hj => u2 _ (by omega)), b2.fr (fun j _ hj => u2 _ (by omega))⟩
    · exact y4.fr (u5 _ _ (by omega) (by omega)) (fun y => u5 _ _ (by omega) (by omega))
    · exact y5.fr (fun x y q1 q2 => u5 x y (by omega) (by omega))
    · rw [u5 _ _ (by omega) (by omega)]; exact y6
    · rw [u5 _ _ (by omega) (by omega)]; exact y7
theorem g_back {a : Int32} {σ : Mem} (h : Inv σ) : wp_X5_back a σ (fun r τ => wp_X6_back a τ (fun r' τ' => r = r' ∧ Inv τ')) := by
  obtain ⟨A, J, kp, T, t, z, ln, ce, f, tn, hX, hM⟩ := h
  have w01 : ∀ k, k ≤ 1 → a = nI k → wc 0 1 a := fun k hk ea => by rw [ea]; exact wc0_mk (n := 1) hk (by omega)
  refine x_back (fun no => ?_) (fun k hk ea e0 => ?_) (fun k hk ea e0 => ?_)
  · exact m_back (fun _ => ⟨rfl, inv_mk hX hM⟩) (fun k hk ea _ => absurd (w01 k hk ea) no) (fun k hk ea _ => absurd (w01 k hk ea) no)
  · refine m_back (fun no => absurd (w01 k hk ea) no) (fun _ _ _ _ => ⟨rfl, inv_mk hX hM⟩) (fun k' hk' ea' e1 => ?_)
    obtain rfl : k = k' := inj (ea.symm.trans ea') (by omega) (by omega)
    rw [(hM.2.2.1 k (by omega)).1, ← (hX.2.2.2.1 k (by omega)).2.1] at e1
    exact absurd e0 e1
  · obtain ⟨-, a2, a3⟩ := hX.2.2.2.1 k (by omega)
    have e0' : ¬ kp k = 0 := by rw [← a2]; exact e0
    obtain ⟨b1, b2, b3⟩ := a3 e0'
    refine ⟨J k, b1, b2, fun τ t1 t2 t3 t4 => ?_⟩
    have hM1 : IM τ A J kp T t z ln ce f tn := hM.hi (fun x y q => t3 x y (by omega))
    obtain ⟨m1, m2⟩ := hM1.2.2.1 k (by omega)
    obtain ⟨n1, n2⟩ := m2 e0'
    refine m_back (fun no => absurd (w01 k hk ea) no) (fun k' hk' ea' e1 => ?_) (fun k' hk' ea' _ υ u1 u2 u3 => ?_)
    · obtain rfl : k = k' := inj (ea.symm.trans ea') (by omega) (by omega)
      rw [m1] at e1
      exact absurd e1 e0'
    · obtain rfl : k = k' := inj (ea.symm.trans ea') (by omega) (by omega)
      have n3 := n1.2.2.2.2 32 (by omega) (by omega)
      have r1 : Rl (υ.1 65) (J k) := n1.fr (fun j hj => u1 j (by omega))
      refine ⟨(r1.2.2.2.2 32 (by omega) (by omega)).symm, inv_mk (hX.up (t1.frame (fun x y q1 q2 => u3 x y (by omega))) (t2.fr (fun x y q1 q2 => u3 x y (by omega))) b3 (fun x y q => by rw [u3 x y (by omega), t3 x y (by omega)])) (hM1.up r1 (n2.fr (fun j _ hj => u1 j (by omega))) (fun y q => u2 y (by omega)) (fun x y q => u3 x y (by omega)))⟩
theorem g_sheet {a b c : Int32} {σ : Mem} (h : Inv σ) : wp_X5_sheet a b c σ (fun r τ => wp_X6_sheet a b c τ (fun r' τ' => r = r' ∧ Inv τ')) := by
  obtain ⟨A, J, kp, T, t, z, ln, ce, f, tn, hX, hM⟩ := h
  have yes : ∀ k n, k < 4 → n ≤ 40 → a = nI k → c = nI n → wc 0 2 b → wc 0 3 a ∧ wc 0 2 b ∧ c ≤ 40 := fun k n hk hn ea ec hb => ⟨by rw [ea]; exact wc0_mk (n := 3) (by omega) (by omega), hb, by rw [ec]; exact nI_le (b := 40) hn (by omega)⟩
  refine x_sheet hX.2.2.2.2.2.1 (fun no => ?_) (fun ok neg => ?_) (fun k n hk hn ea ec hb τ t1 t2 t3 => ?_)
  · exact m_sheet hM.2.2.2.2.1 (fun _ => ⟨rfl, inv_mk hX hM⟩) (fun ok _ => absurd ok no) (fun k n hk hn ea ec hb => absurd (yes k n hk hn ea ec hb) no)
  · exact m_sheet hM.2.2.2.2.1 (fun no => absurd ok no) (fun _ _ => ⟨rfl, inv_mk hX hM⟩) (fun k n hk hn ea ec hb => absurd (by rw [ec]; exact nI_pos' (by omega)) neg)
  · have hM1 : IM τ A J kp T t z ln ce f tn := hM.hi (fun x y q => t2 x y (by omega))
    refine m_sheet hM1.2.2.2.2.1 (fun no => absurd (yes k n hk hn ea ec hb) no) (fun _ neg => absurd (by rw [ec]; exact nI_pos' (by omega)) neg) (fun k' n' hk' hn' ea' ec' _ υ u1 u2 => ?_)
    obtain rfl : k = k' := inj (ea.symm.trans ea') (by omega) (by omega)
    obtain rfl : n = n' := inj (ec.symm.trans ec') (by omega) (by omega)
    obtain ⟨x1, x2, x3, x4, x5, x6, x7, x8⟩ := hX
    obtain ⟨y1, y2, y3, y4, y5, y6, y7⟩ := hM1
    have lo : ∀ x y, x < 53 → υ.1 x y = σ.1 x y := fun x y q => by rw [u2 x y (by omega) (by omega) (by omega), t2 x y (by omega)]
    have hi : ∀ x y, 61 ≤ x → x < 74 → υ.1 x y = τ.1 x y := fun x y q1 q2 => u2 x y (by omega) (by omega) (by omega)
    exact ⟨rfl, A, J, kp, T, t, _, _, _, f, tn, ⟨x1.frame (fun x y q1 q2 => lo x y (by omega)), x2.fr (fun x y q1 q2 => lo x y (by omega)), x3, x4.fr (fun x y q1 q2 => lo x y (by omega)), x5.fr (lo _ _ (by omega)) (fun y => lo _ _ (by omega)), t1.fr (fun x y q1 q2 => u2 x y (by omega) (by omega) (by omega)), by rw [lo _ _ (by omega)]; exact x7, by rw [lo _ _ (by omega)]; exact x8⟩, ⟨y1.fr (fun j _ => hi _ _ (by omega) (by omega)), y2.fr (fun j _ _ => hi _ _ (by omega) (by omega)), y3.fr (fun j _ => hi _ _ (by omega) (by omega)) (fun j => hi _ _ (by omega) (by omega)), y4.fr (hi _ _ (by omega) (by omega)) (fun y => hi _ _ (by omega) (by omega)), u1, by rw [hi _ _ (by omega) (by omega)]; exact y6, by rw [hi _ _ (by omega) (by omega)]; exact y7⟩⟩
theorem g_lay {a b c : Int32} {σ : Mem} (h : Inv σ) : wp_X5_lay a b c σ (fun r τ => wp_X6_lay a b c τ (fun r' τ' => r = r' ∧ Inv τ')) := by
  obtain ⟨A, J, kp, T, t, z, ln, ce, f, tn, hX, hM⟩ := h
  have w03 : ∀ k, k < 4 → a = nI k → wc 0 3 a := fun k hk ea => by rw [ea]; exact wc0_mk (n := 3) (by omega) (by omega)
  have hz : ∀ k, k < 4 → ¬ z k = 0 → z k ≤ 41 := fun k hk q => ((hX.2.2.2.2.2.1 k hk).2.2 q).1
  have same : ∀ k k', k < 4 → k' < 4 → a = nI k → a = nI k' → k = k' := fun k k' hk hk' ea ea' => inj (ea.symm.trans ea') (by omega) (by omega)
  refine x_lay hX.2.2.2.2.2.1 (fun no => ?_) (fun k hk ea e0 => ?_) (fun k hk ea e0 no => ?_) (fun k i hk hi ea eb e0 τ t1 t2 t3 => ?_)
  · exact m_lay hM.2.2.2.2.1 (fun _ => ⟨rfl, inv_mk hX hM⟩) (fun k hk ea _ => absurd (w03 k hk ea) no) (fun k hk ea _ _ => absurd (w03 k hk ea) no) (fun k i hk _ ea _ _ => absurd (w03 k hk ea) no)
  · refine m_lay hM.2.2.2.2.1 (fun no => absurd (w03 k hk ea) no) (fun _ _ _ _ => ⟨rfl, inv_mk hX hM⟩) (fun k' hk' ea' e1 => ?_) (fun k' i hk' _ ea' _ e1 => ?_)
    · rw [same k k' hk hk' ea ea'] at e0; exact absurd e0 e1
    · rw [same k k' hk hk' ea ea'] at e0; exact absurd e0 e1
  · refine m_lay hM.2.2.2.2.1 (fun no => absurd (w03 k hk ea) no) (fun k' hk' ea' e1 => ?_) (fun _ _ _ _ _ => ⟨rfl, inv_mk hX hM⟩) (fun k' i hk' hi ea' eb e1 => ?_)
    · rw [same k k' hk hk' ea ea'] at e0; exact absurd e1 e0
    · rw [same k k' hk hk' ea ea'] at no
      have := hz k' hk' e1
      exact absurd (by rw [eb]; exact in_yes (by omega) hi) no
  · have hM1 : IM τ A J kp T t z ln ce f tn := hM.hi (fun x y q => t2 x y (by omega))
    have z41 := hz k hk e0
    refine m_lay hM1.2.2.2.2.1 (fun no => absurd (w03 k hk ea) no) (fun k' hk' ea' e1 => ?_) (fun k' hk' ea' e1 no => ?_) (fun k' i' hk' hi' ea' eb' e1 υ u1 u2 => ?_)
    · rw [same k k' hk hk' ea ea'] at e0; exact absurd e1 e0
    · rw [← same k k' hk hk' ea ea'] at no
      exact absurd (by rw [eb]; exact in_yes (by omega) hi) no
    · obtain rfl := same k k' hk hk' ea ea'
      obtain rfl : i = i' := inj (eb.symm.trans eb') (by omega) (by omega)
      obtain ⟨x1, x2, x3, x4, x5, x6, x7, x8⟩ := hX
      obtain ⟨y1, y2, y3, y4, y5, y6, y7⟩ := hM1
      have lo : ∀ x y, x < 53 → υ.1 x y = σ.1 x y := fun x y q => by rw [u2 x y (by omega), t2 x y (by omega)]
      have hi : ∀ x y, 61 ≤ x → x < 74 → υ.1 x y = τ.1 x y := fun x y q1 q2 => u2 x y (by omega)
      exact ⟨rfl, A, J, kp, T, t, _, _, _, f, tn, ⟨x1.frame (fun x y q1 q2 => lo x y (by omega)), x2.fr (fun x y q1 q2 => lo x y (by omega)), x3, x4.fr (fun x y q1 q2 => lo x y (by omega)), x5.fr (lo _ _ (by omega)) (fun y => lo _ _ (by omega)), t1.fr (fun x y q1 q2 => u2 x y (by omega)), by rw [lo _ _ (by omega)]; exact x7, by rw [lo _ _ (by omega)]; exact x8⟩, ⟨y1.fr (fun j _ => hi _ _ (by omega) (by omega)), y2.fr (fun j _ _ => hi _ _ (by omega) (by omega)), y3.fr (fun j _ => hi _ _ (by omega) (by omega)) (fun j => hi _ _ (by omega) (by omega)), y4.fr (hi _ _ (by omega) (by omega)) (fun y => hi _ _ (by omega) (by omega)), u1, by rw [hi _ _ (by omega) (by omega)]; exact y6, by rw [hi _ _ (by omega) (by omega)]; exact y7⟩⟩
theorem g_read {a b c d : Int32} {σ : Mem} (h : Inv σ) : wp_X5_read a b c d σ (fun r τ => wp_X6_read a b c d τ (fun r' τ' => r = r' ∧ Inv τ')) := by
  obtain ⟨A, J, kp, T, t, z, ln, ce, f, tn, hX, hM⟩ := h
  have yes : ∀ k n, k < 4 → n ≤ 20 → a = nI k → d = nI n → wc 0 2 b → wc 0 3 a ∧ wc 0 2 b ∧ wc 0 20 d := fun k n hk hn ea ed hb => ⟨by rw [ea]; exact wc0_mk (n := 3) (by omega) (by omega), hb, by rw [ed]; exact wc0_mk (n := 20) hn (by omega)⟩
  have same : ∀ k k' n n' : Nat, k < 4 → k' < 4 → n ≤ 20 → n' ≤ 20 → a = nI k → a = nI k' → d = nI n → d = nI n' → k = k' ∧ n = n' := fun k k' n n' h1 h2 h3 h4 e1 e2 e3 e4 => ⟨inj (e1.symm.trans e2) (by omega) (by omega), inj (e3.symm.trans e4) (by omega) (by omega)⟩
  have h33 := hX.2.2.1
  refine x_read hX.1 h33 hX.2.2.2.2.2.1 (fun no => ?_) (fun k n hk hn ea ed hb r he τ kx => ?_) (fun k n hk hn ea ed hb r q B he τ t1 t2 t3 t4 => ?_)
  · exact m_read hM.1 h33 hM.2.2.2.2.1 (fun _ => ⟨rfl, inv_mk hX hM⟩) (fun k n hk hn ea ed hb => absurd (yes k n hk hn ea ed hb) no) (fun k n hk hn ea ed hb => absurd (yes k n hk hn ea ed hb) no)
  · have hM1 := hM.kx kx
    refine m_read hM1.1 h33 hM1.2.2.2.2.1 (fun no => absurd (yes k n hk hn ea ed hb) no) (fun k' n' hk' hn' ea' ed' _ r' he' υ km => ?_) (fun k' n' hk' hn' ea' ed' _ r' q B he' => ?_)
    · obtain ⟨rfl, rfl⟩ := same k k' n n' hk hk' hn hn' ea ea' ed ed'
      rw [he] at he'
      cases he'
      exact ⟨rfl, inv_mk ((hX.kx kx).km km) (hM1.km km)⟩
    · obtain ⟨rfl, rfl⟩ := same k k' n n' hk hk' hn hn' ea ea' ed ed'
      rw [he] at he'
      cases he'
  · have hM1 : IM τ A J kp T t z ln ce f tn := hM.hi (fun x y q => t3 x y (by omega) (by omega))
    refine m_read hM1.1 h33 hM1.2.2.2.2.1 (fun no => absurd (yes k n hk hn ea ed hb) no) (fun k' n' hk' hn' ea' ed' _ r' he' => ?_) (fun k' n' hk' hn' ea' ed' _ r' q' B' he' υ u1 u2 u3 u4 => ?_)
    · obtain ⟨rfl, rfl⟩ := same k k' n n' hk hk' hn hn' ea ea' ed ed'
      rw [he] at he'
      cases he'
    · obtain ⟨rfl, rfl⟩ := same k k' n n' hk hk' hn hn' ea ea' ed ed'
      rw [he] at he'
      cases he'
      obtain ⟨c1, c2, c3, c4⟩ := rdA_ok n 0 A r q B hX.1.1 h33 he
      obtain ⟨x1, x2, x3, x4, x5, x6, x7, x8⟩ := hX
      obtain ⟨y1, y2, y3, y4, y5, y6, y7⟩ := hM1
      have lo : ∀ x y, x < 64 → υ.1 x y = τ.1 x y := fun x y q => u4 x y (by omega) (by omega) (by omega) (by omega) (by omega)
      exact ⟨rfl, B, J, kp, T, t, z, ln, ce, f, q, ⟨t1.frame (fun x y q1 q2 => lo x y (by omega)), (x2.cg c4).fr (fun x y q1 q2 => by rw [lo x y (by omega), t3 x y (by omega) (by omega)]), c2, x4.fr (fun x y q1 q2 => by rw [lo x y (by omega), t3 x y (by omega) (by omega)]), x5.fr (by rw [lo _ _ (by omega), t3 _ _ (by omega) (by omega)]) (fun y => by rw [lo _ _ (by omega), t3 _ _ (by omega) (by omega)]), x6.fr (fun x y q1 q2 => by rw [lo x y (by omega), t3 x y (by omega) (by omega)]), by rw [lo _ _ (by omega), t3 _ _ (by omega) (by omega)]; exact x7, by rw [lo _ _ (by omega)]; exact t2⟩, ⟨u1, (y2.cg c4).fr (fun j q1 q2 => u2 j (by omega)), y3.fr (fun j _ => u2 j (by omega)) (fun j => u4 _ _ (by omega) (by omega) (by omega) (by omega) (by omega)), y4.fr (u4 _ _ (by omega) (by omega) (by omega) (by omega) (by omega)) (fun y => u4 _ _ (by omega) (by omega) (by omega) (by omega) (by omega)), y5.fr (fun x y q1 q2 => u4 x y (by omega) (by omega) (by omega) (by omega) (by omega)), by rw [u4 _ _ (by omega) (by omega) (by omega) (by omega) (by omega)]; exact y6, u3⟩⟩
