/-! the reference: names -/
theorem m_is {n a b c d s e T : Nat} {t : Nat → Nat} {σ : Mem} {Q : Int32 → Mem → Prop} (hT : TM σ T t) (h11 : σ.1 64 11 = nI e) (h12 : σ.1 64 12 = nI s) (hse : s ≤ e) (heT : e ≤ T) (hn : 4 ≤ n ∧ n ≤ 7) (ha : a ≤ 127) (hb : b ≤ 127) (hc : c ≤ 127) (hd : d ≤ 127)
    (h1 : e - s = n → t s = a → t (s + 1) = b → t (s + 2) = c → t (s + 3) = d → Q 1 σ) (h0 : ¬ (e - s = n ∧ t s = a ∧ t (s + 1) = b ∧ t (s + 2) = c ∧ t (s + 3) = d) → Q 0 σ) : wp_X6_is (nI n) (nI a) (nI b) (nI c) (nI d) σ Q := by
  have T6 := hT.1
  unfold wp_X6_is
  rw [h11, h12, pk_sub hse]
  refine ⟨fun z => h0 (fun q => z (by rw [q.1])), fun z => ?_⟩
  have z' : e - s = n := (nI_eq (by omega) (by omega)).mp z
  refine m_byte hT (by omega) (fun q => by omega) (fun _ t0 => ⟨fun y => h0 (fun q => y (by rw [q.2.1])), fun y => ?_⟩)
  have y0 : t s = a := (nI_eq (by omega) (by omega)).mp y
  rw [h12, nI_1]
  refine m_byte hT (by omega) (fun q => by omega) (fun _ t1 => ⟨fun y => h0 (fun q => y (by rw [q.2.2.1])), fun y => ?_⟩)
  have y1 : t (s + 1) = b := (nI_eq (by omega) (by omega)).mp y
  rw [h12, show (2 : Int32) = nI 2 from rfl, nI_add]
  refine m_byte hT (by omega) (fun q => by omega) (fun _ t2 => ⟨fun y => h0 (fun q => y (by rw [q.2.2.2.1])), fun y => ?_⟩)
  have y2 : t (s + 2) = c := (nI_eq (by omega) (by omega)).mp y
  rw [h12, show (3 : Int32) = nI 3 from rfl, nI_add]
  refine m_byte hT (by omega) (fun q => by omega) (fun _ t3 => ⟨fun y => h0 (fun q => y (by rw [q.2.2.2.2])), fun y => ?_⟩)
  have y3 : t (s + 3) = d := (nI_eq (by omega) (by omega)).mp y
  exact h1 z' y0 y1 y2 y3
theorem m_ends1 {a s T : Nat} {t : Nat → Nat} {σ : Mem} {Q : Int32 → Mem → Prop} (hT : TM σ T t) (h12 : σ.1 64 12 = nI s) (hs : s + 4 < T) (ha : a ≤ 127) (h1 : t (s + 4) = a → Q 1 σ) (h0 : ¬ t (s + 4) = a → Q 0 σ) : wp_X6_ends (nI a) 0 0 σ Q := by
  have T6 := hT.1
  intro P32 P51 h32 h51
  rw [h12, show (4 : Int32) = nI 4 from rfl, nI_add]
  refine m_byte hT (by omega) (fun q => by omega) (fun _ t0 => ⟨fun y => h0 (fun q => y (by rw [q])), fun y => ⟨fun _ => ?_, fun q => absurd rfl q⟩⟩)
  have y0 : t (s + 4) = a := (nI_eq (by omega) (by omega)).mp y
  apply h32
  exact ⟨fun _ => h51 _ (h1 y0), fun q => absurd rfl q⟩
theorem m_ends3 {a b c s T : Nat} {t : Nat → Nat} {σ : Mem} {Q : Int32 → Mem → Prop} (hT : TM σ T t) (h12 : σ.1 64 12 = nI s) (hs : s + 6 < T) (ha : a ≤ 127) (hb : 0 < b ∧ b ≤ 127) (hc : 0 < c ∧ c ≤ 127) (h1 : t (s + 4) = a → t (s + 5) = b → t (s + 6) = c → Q 1 σ) (h0 : ¬ (t (s + 4) = a ∧ t (s + 5) = b ∧ t (s + 6) = c) → Q 0 σ) : wp_X6_ends (nI a) (nI b) (nI c) σ Q := by
  have T6 := hT.1
  intro P32 P51 h32 h51
  rw [h12, show (4 : Int32) = nI 4 from rfl, nI_add]
  refine m_byte hT (by omega) (fun q => by omega) (fun _ t0 => ⟨fun y => h0 (fun q => y (by rw [q.1])), fun y => ⟨fun q => absurd q (nI_ne0 (by omega) (by omega)), fun _ => ?_⟩⟩)
  have y0 : t (s + 4) = a := (nI_eq (by omega) (by omega)).mp y
  rw [h12, show (5 : Int32) = nI 5 from rfl, nI_add]
  refine m_byte hT (by omega) (fun q => by omega) (fun _ t1 => ⟨fun y => h0 (fun q => y (by rw [q.2.1])), fun y => ?_⟩)
  have y1 : t (s + 5) = b := (nI_eq (by omega) (by omega)).mp y
  apply h32
  refine ⟨fun q => absurd q (nI_ne0 (by omega) (by omega)), fun _ => ?_⟩
  rw [h12, show (6 : Int32) = nI 6 from rfl, nI_add]
  refine m_byte hT (by omega) (fun q => by omega) (fun _ t2 => ⟨fun y => h0 (fun q => y (by rw [q.2.2])), fun y => ?_⟩)
  have y2 : t (s + 6) = c := (nI_eq (by omega) (by omega)).mp y
  exact h51 _ (h1 y0 y1 y2)
theorem nm_p4 {t : Nat → Nat} {s e i a b c d : Nat} (hL : nmL.getD i [] = [a, b, c, d]) : nmP t i s e ↔ (e - s = 4 ∧ t s = a ∧ t (s + 1) = b ∧ t (s + 2) = c ∧ t (s + 3) = d) := by
  unfold nmP
  rw [hL]
  constructor
  · intro h
    exact ⟨h.1, h.2 0 (by simp), h.2 1 (by simp), h.2 2 (by simp), h.2 3 (by simp)⟩
  · rintro ⟨h, h0, h1, h2, h3⟩
    refine ⟨h, fun j hj => ?_⟩
    have hj : j < 4 := hj
    rcases (show j = 0 ∨ j = 1 ∨ j = 2 ∨ j = 3 by omega) with rfl | rfl | rfl | rfl
    · exact h0
    · exact h1
    · exact h2
    · exact h3
theorem nm_p5 {t : Nat → Nat} {s e i a b c d f : Nat} (hL : nmL.getD i [] = [a, b, c, d, f]) : nmP t i s e ↔ (e - s = 5 ∧ t s = a ∧ t (s + 1) = b ∧ t (s + 2) = c ∧ t (s + 3) = d ∧ t (s + 4) = f) := by
  unfold nmP
  rw [hL]
  constructor
  · intro h
    exact ⟨h.1, h.2 0 (by simp), h.2 1 (by simp), h.2 2 (by simp), h.2 3 (by simp), h.2 4 (by simp)⟩
  · rintro ⟨h, h0, h1, h2, h3, h4⟩
    refine ⟨h, fun j hj => ?_⟩
    have hj : j < 5 := hj
    rcases (show j = 0 ∨ j = 1 ∨ j = 2 ∨ j = 3 ∨ j = 4 by omega) with rfl | rfl | rfl | rfl | rfl
    · exact h0
    · exact h1
    · exact h2
    · exact h3
    · exact h4
theorem nm_p7 {t : Nat → Nat} {s e i a b c d f g k : Nat} (hL : nmL.getD i [] = [a, b, c, d, f, g, k]) : nmP t i s e ↔ (e - s = 7 ∧ t s = a ∧ t (s + 1) = b ∧ t (s + 2) = c ∧ t (s + 3) = d ∧ t (s + 4) = f ∧ t (s + 5) = g ∧ t (s + 6) = k) := by
  unfold nmP
  rw [hL]
  constructor
  · intro h
    exact ⟨h.1, h.2 0 (by simp), h.2 1 (by simp), h.2 2 (by simp), h.2 3 (by simp), h.2 4 (by simp), h.2 5 (by simp), h.2 6 (by simp)⟩
  · rintro ⟨h, h0, h1, h2, h3, h4, h5, h6⟩
    refine ⟨h, fun j hj => ?_⟩
    have hj : j < 7 := hj
    rcases (show j = 0 ∨ j = 1 ∨ j = 2 ∨ j = 3 ∨ j = 4 ∨ j = 5 ∨ j = 6 by omega) with rfl | rfl | rfl | rfl | rfl | rfl | rfl
    · exact h0
    · exact h1
    · exact h2
    · exact h3
    · exact h4
    · exact h5
    · exact h6
def kc (c : Nat) : Int32 := if c = 7 then -4 else nI c
theorem m_code {s e T : Nat} {t : Nat → Nat} {σ : Mem} {Q : Int32 → Mem → Prop} (hT : TM σ T t) (h11 : σ.1 64 11 = nI e) (h12 : σ.1 64 12 = nI s) (hse : s ≤ e) (heT : e ≤ T) (hQ : Q (kc (cdE t s e)) σ) : wp_X6_lineNow σ Q := by
  have hq : ∀ i, i < 7 → nmP t i s e → Q (nI i) σ := by
    intro i hi h
    rw [cd_of hi h] at hQ
    unfold kc at hQ
    rw [if_neg (by omega)] at hQ
    exact hQ
  have n0 : nmP t 0 s e ↔ _ := nm_p5 rfl
  have n1 : nmP t 1 s e ↔ _ := nm_p4 rfl
  have n2 : nmP t 2 s e ↔ _ := nm_p7 rfl
  have n3 : nmP t 3 s e ↔ _ := nm_p5 rfl
  have n4 : nmP t 4 s e ↔ _ := nm_p4 rfl
  have n5 : nmP t 5 s e ↔ _ := nm_p7 rfl
  have n6 : nmP t 6 s e ↔ _ := nm_p5 rfl
  intro P52 P84 h52 h84
  have kinds : ¬ nmP t 4 s e → ¬ nmP t 5 s e → ¬ nmP t 6 s e → P84 σ := by
    intro y4 y5 y6
    apply h84
    intro P29 P81 h29 h81
    have p81 : ¬ nmP t 0 s e → ¬ nmP t 1 s e → ¬ nmP t 2 s e → P81 σ := by
      intro y0 y1 y2
      apply h81
      have last : ¬ nmP t 3 s e → Q (-4) σ := by
        intro y3
        rw [cd_no (fun i hi => by
          rcases (show i = 0 ∨ i = 1 ∨ i = 2 ∨ i = 3 ∨ i = 4 ∨ i = 5 ∨ i = 6 by omega) with rfl | rfl | rfl | rfl | rfl | rfl | rfl
          · exact y0
          · exact y1
          · exact y2
          · exact y3
          · exact y4
          · exact y5
          · exact y6)] at hQ
        exact hQ
      refine m_is (n := 5) (a := 115) (b := 116) (c := 111) (d := 111) hT h11 h12 hse heT (by omega) (by omega) (by omega) (by omega) (by omega) (fun x0 x1 x2 x3 x4 => b11 ?_) (fun y => b01 (last (fun q => y ⟨(n3.mp q).1, (n3.mp q).2.1, (n3.mp q).2.2.1, (n3.mp q).2.2.2.1, (n3.mp q).2.2.2.2.1⟩)))
      exact m_ends1 (a := 108) hT h12 (by omega) (by omega) (fun w => b11 (hq 3 (by omega) (n3.mpr ⟨x0, x1, x2, x3, x4, w⟩))) (fun w => b01 (last (fun q => w (n3.mp q).2.2.2.2.2)))
    have p29 : ¬ nmP t 0 s e → P29 σ := by
      intro y0
      apply h29
      refine m_is (n := 4) (a := 116) (b := 97) (c := 108) (d := 108) hT h11 h12 hse heT (by omega) (by omega) (by omega) (by omega) (by omega) (fun x0 x1 x2 x3 x4 => b11 (hq 1 (by omega) (n1.mpr ⟨x0, x1, x2, x3, x4⟩))) (fun y1 => b01 ?_)
      have y1' : ¬ nmP t 1 s e := fun q => y1 (n1.mp q)
      refine m_is (n := 7) (a := 115) (b := 116) (c := 111) (d := 111) hT h11 h12 hse heT (by omega) (by omega) (by omega) (by omega) (by omega) (fun x0 x1 x2 x3 x4 => b11 ?_) (fun y => b01 (p81 y0 y1' (fun q => y ⟨(n2.mp q).1, (n2.mp q).2.1, (n2.mp q).2.2.1, (n2.mp q).2.2.2.1, (n2.mp q).2.2.2.2.1⟩)))
      exact m_ends3 (a := 112) (b := 101) (c := 100) hT h12 (by omega) (by omega) (by omega) (by omega) (fun w1 w2 w3 => b11 (hq 2 (by omega) (n2.mpr ⟨x0, x1, x2, x3, x4, w1, w2, w3⟩))) (fun w => b01 (p81 y0 y1' (fun q => w (n2.mp q).2.2.2.2.2)))
    refine m_is (n := 5) (a := 112) (b := 108) (c := 97) (d := 105) hT h11 h12 hse heT (by omega) (by omega) (by omega) (by omega) (by omega) (fun x0 x1 x2 x3 x4 => b11 ?_) (fun y => b01 (p29 (fun q => y ⟨(n0.mp q).1, (n0.mp q).2.1, (n0.mp q).2.2.1, (n0.mp q).2.2.2.1, (n0.mp q).2.2.2.2.1⟩)))
    exact m_ends1 (a := 110) hT h12 (by omega) (by omega) (fun w => b11 (hq 0 (by omega) (n0.mpr ⟨x0, x1, x2, x3, x4, w⟩))) (fun w => b01 (p29 (fun q => w (n0.mp q).2.2.2.2.2)))
  have p52 : ¬ nmP t 4 s e → ¬ nmP t 5 s e → P52 σ := by
    intro y4 y5
    apply h52
    refine m_is (n := 5) (a := 119) (b := 111) (c := 114) (d := 107) hT h11 h12 hse heT (by omega) (by omega) (by omega) (by omega) (by omega) (fun x0 x1 x2 x3 x4 => b11 ?_) (fun y => b01 (kinds y4 y5 (fun q => y ⟨(n6.mp q).1, (n6.mp q).2.1, (n6.mp q).2.2.1, (n6.mp q).2.2.2.1, (n6.mp q).2.2.2.2.1⟩)))
    exact m_ends1 (a := 115) hT h12 (by omega) (by omega) (fun w => b11 (hq 6 (by omega) (n6.mpr ⟨x0, x1, x2, x3, x4, w⟩))) (fun w => b01 (kinds y4 y5 (fun q => w (n6.mp q).2.2.2.2.2)))
  refine m_is (n := 4) (a := 108) (b := 105) (c := 110) (d := 101) hT h11 h12 hse heT (by omega) (by omega) (by omega) (by omega) (by omega) (fun x0 x1 x2 x3 x4 => b11 (hq 4 (by omega) (n4.mpr ⟨x0, x1, x2, x3, x4⟩))) (fun y4 => b01 ?_)
  have y4' : ¬ nmP t 4 s e := fun q => y4 (n4.mp q)
  refine m_is (n := 7) (a := 108) (b := 117) (c := 109) (d := 98) hT h11 h12 hse heT (by omega) (by omega) (by omega) (by omega) (by omega) (fun x0 x1 x2 x3 x4 => b11 ?_) (fun y => b01 (p52 y4' (fun q => y ⟨(n5.mp q).1, (n5.mp q).2.1, (n5.mp q).2.2.1, (n5.mp q).2.2.2.1, (n5.mp q).2.2.2.2.1⟩)))
  exact m_ends3 (a := 97) (b := 103) (c := 111) hT h12 (by omega) (by omega) (by omega) (by omega) (fun w1 w2 w3 => b11 (hq 5 (by omega) (n5.mpr ⟨x0, x1, x2, x3, x4, w1, w2, w3⟩))) (fun w => b01 (p52 y4' (fun q => w (n5.mp q).2.2.2.2.2)))
