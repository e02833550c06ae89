/-! what a text says: states of the reader -/
abbrev PS : Type := (Nat → Nat) × Bool × Bool × Bool × Nat × Nat × (Nat → Nat)
abbrev pA (S : PS) : Nat → Nat := S.1
abbrev p4 (S : PS) : Bool := S.2.1
abbrev p5 (S : PS) : Bool := S.2.2.1
abbrev p6 (S : PS) : Bool := S.2.2.2.1
abbrev pc (S : PS) : Nat := S.2.2.2.2.1
abbrev pp (S : PS) : Nat := S.2.2.2.2.2.1
abbrev pf (S : PS) : Nat → Nat := S.2.2.2.2.2.2
abbrev ER : Type := Nat × Nat
def chk (r : Except ER Tok) (lo hi : Nat) : Except ER (Nat × Nat) := match r with
  | .error e => .error e
  | .ok k => if k.k = 2 then (if lo ≤ k.v ∧ k.v ≤ hi then .ok (k.v, k.n) else .error (3, k.s)) else .error (2, k.s)
def stp (r : Except ER Tok) : Except ER Nat := match r with
  | .error e => .error e
  | .ok k => if k.k = 3 then .ok k.n else .error (2, k.s)
def nx (t : Nat → Nat) (T : Nat) (c : Except ER (Nat × Nat)) : Except ER Tok := match c with
  | .error e => .error e
  | .ok a => tkE t T a.2
def vl (c : Except ER (Nat × Nat)) : Nat := match c with
  | .error _ => 0
  | .ok a => a.1
def GR (T : Nat) (r : Except ER Tok) : Prop := (∀ e, r = .error e → 1 ≤ e.1 ∧ e.1 ≤ 6 ∧ e.2 ≤ T) ∧ (∀ k, r = .ok k → k.s ≤ T ∧ k.n ≤ T ∧ k.k ≤ 3 ∧ (k.k = 2 → k.v ≤ 99))
theorem gr_tk {t : Nat → Nat} {T p : Nat} (h : p ≤ T) : GR T (tkE t T p) := by
  refine ⟨fun e he => ?_, fun k hk => ?_⟩
  · obtain ⟨a, b⟩ := tk_er h he
    omega
  · obtain ⟨a1, a2, a3, a4, a5, a6, a7⟩ := tk_ok h hk
    exact ⟨by omega, a3, a4, a7⟩
theorem chk_ok {r : Except ER Tok} {lo hi : Nat} {a : Nat × Nat} (h : chk r lo hi = .ok a) : ∃ k : Tok, r = .ok k ∧ k.k = 2 ∧ lo ≤ k.v ∧ k.v ≤ hi ∧ a = (k.v, k.n) := by
  unfold chk at h
  cases r with
  | error e => cases h
  | ok k =>
    simp only at h
    by_cases h1 : k.k = 2
    · rw [if_pos h1] at h
      by_cases h2 : lo ≤ k.v ∧ k.v ≤ hi
      · rw [if_pos h2] at h
        cases h
        exact ⟨k, rfl, h1, h2.1, h2.2, rfl⟩
      · rw [if_neg h2] at h
        cases h
    · rw [if_neg h1] at h
      cases h
theorem chk_er {T : Nat} {r : Except ER Tok} {lo hi : Nat} {e : ER} (g : GR T r) (h : chk r lo hi = .error e) : 1 ≤ e.1 ∧ e.1 ≤ 6 ∧ e.2 ≤ T := by
  unfold chk at h
  cases r with
  | error e' =>
    simp only [Except.error.injEq] at h
    subst h
    exact g.1 _ rfl
  | ok k =>
    obtain ⟨g1, g2, -⟩ := g.2 k rfl
    simp only at h
    by_cases h1 : k.k = 2
    · rw [if_pos h1] at h
      by_cases h2 : lo ≤ k.v ∧ k.v ≤ hi
      · rw [if_pos h2] at h
        cases h
      · rw [if_neg h2] at h
        cases h
        exact ⟨by simp, by simp, g1⟩
    · rw [if_neg h1] at h
      cases h
      exact ⟨by simp, by simp, g1⟩
theorem stp_ok {r : Except ER Tok} {q : Nat} (h : stp r = .ok q) : ∃ k : Tok, r = .ok k ∧ k.k = 3 ∧ q = k.n := by
  unfold stp at h
  cases r with
  | error e => cases h
  | ok k =>
    simp only at h
    by_cases h1 : k.k = 3
    · rw [if_pos h1] at h
      cases h
      exact ⟨k, rfl, h1, rfl⟩
    · rw [if_neg h1] at h
      cases h
theorem stp_er {T : Nat} {r : Except ER Tok} {e : ER} (g : GR T r) (h : stp r = .error e) : 1 ≤ e.1 ∧ e.1 ≤ 6 ∧ e.2 ≤ T := by
  unfold stp at h
  cases r with
  | error e' =>
    simp only [Except.error.injEq] at h
    subst h
    exact g.1 _ rfl
  | ok k =>
    obtain ⟨g1, g2, -⟩ := g.2 k rfl
    simp only at h
    by_cases h1 : k.k = 3
    · rw [if_pos h1] at h
      cases h
    · rw [if_neg h1] at h
      cases h
      exact ⟨by simp, by simp, g1⟩
theorem gr_nx {t : Nat → Nat} {T lo hi : Nat} {r : Except ER Tok} (g : GR T r) : GR T (nx t T (chk r lo hi)) := by
  cases h : chk r lo hi with
  | error e =>
    refine ⟨fun e' he => ?_, fun k hk => ?_⟩
    · unfold nx at he
      simp only [Except.error.injEq] at he
      subst he
      exact chk_er g h
    · unfold nx at hk
      cases hk
  | ok a =>
    obtain ⟨k, hk, h1, h2, h3, rfl⟩ := chk_ok h
    exact gr_tk (g.2 k hk).2.1
theorem nx_ok {t : Nat → Nat} {T : Nat} {c : Except ER (Nat × Nat)} {k : Tok} (h : nx t T c = .ok k) : ∃ a, c = .ok a ∧ tkE t T a.2 = .ok k := by
  cases c with
  | error e => cases h
  | ok a => exact ⟨a, rfl, h⟩
/-! the kinds of lines -/
def heirE (t : Nat → Nat) (T : Nat) (k : Nat) (S : PS) (s0 p : Nat) : Except ER (PS × Nat) :=
  if pA S 24 < 6 then
    (match stp (nx t T (chk (nx t T (chk (nx t T (chk (tkE t T p) 0 20)) 1 20)) 1 30)) with
    | .error e => .error e
    | .ok q => .ok ((addA (pA S) k (vl (chk (tkE t T p) 0 20)) (vl (chk (nx t T (chk (tkE t T p) 0 20)) 1 20)) (vl (chk (nx t T (chk (nx t T (chk (tkE t T p) 0 20)) 1 20)) 1 30)), S.2), q))
  else .error (5, s0)
def lumE (t : Nat → Nat) (T : Nat) (S : PS) (s0 p : Nat) : Except ER (PS × Nat) :=
  if p5 S = true then .error (4, s0) else
    (match stp (nx t T (chk (tkE t T p) 0 9)) with
    | .error e => .error e
    | .ok q => .ok ((setA (pA S) 31 (vl (chk (tkE t T p) 0 9)), p4 S, true, p6 S, S.2.2.2.2), q))
def wrkE (t : Nat → Nat) (T : Nat) (S : PS) (s0 p : Nat) : Except ER (PS × Nat) :=
  if p6 S = true then .error (4, s0) else
    (match stp (nx t T (chk (tkE t T p) 0 99)) with
    | .error e => .error e
    | .ok q => .ok ((setA (pA S) 32 (vl (chk (tkE t T p) 0 99)), p4 S, p5 S, true, S.2.2.2.2), q))
def putF (S : PS) (v : Nat) : PS := (pA S, p4 S, p5 S, p6 S, pc S + 1, pp S + 2 ^ v, fun i => if i = pc S then v else pf S i)
def fstE (t : Nat → Nat) (T : Nat) : Nat → PS → Nat → Except ER (PS × Nat)
  | 0, _, p => .error (4, p)
  | m + 1, S, p => match tkE t T p with
    | .error e => .error e
    | .ok k => if k.k = 3 then .ok (S, k.n) else (match chk (.ok k) 0 5 with
      | .error e => .error e
      | .ok a => if pp S / 2 ^ a.1 % 2 = 0 then fstE t T m (putF S a.1) a.2 else .error (4, k.s))
def linE (t : Nat → Nat) (T : Nat) (S : PS) (s0 p : Nat) : Except ER (PS × Nat) :=
  if p4 S = true then .error (4, s0) else fstE t T 7 (pA S, true, p5 S, p6 S, S.2.2.2.2) p
/-! names -/
def nmL : List (List Nat) := [[112, 108, 97, 105, 110], [116, 97, 108, 108], [115, 116, 111, 111, 112, 101, 100], [115, 116, 111, 111, 108], [108, 105, 110, 101], [108, 117, 109, 98, 97, 103, 111], [119, 111, 114, 107, 115]]
def nmP (t : Nat → Nat) (i s e : Nat) : Prop := e - s = (nmL.getD i []).length ∧ ∀ j, j < (nmL.getD i []).length → t (s + j) = (nmL.getD i []).getD j 0
noncomputable def cdE (t : Nat → Nat) (s e : Nat) : Nat := cs (nmP t 0 s e) 0 (cs (nmP t 1 s e) 1 (cs (nmP t 2 s e) 2 (cs (nmP t 3 s e) 3 (cs (nmP t 4 s e) 4 (cs (nmP t 5 s e) 5 (cs (nmP t 6 s e) 6 7))))))
theorem nm_len : ∀ i, i < 7 → sLen.getD i 0 = (nmL.getD i []).length ∧ (nmL.getD i []).length ≤ 7 := by decide
theorem nm_byt : ∀ i, i < 7 → ∀ j, j < 7 → (sByt.getD i []).getD j 0 = nI ((nmL.getD i []).getD j 0) ∧ (nmL.getD i []).getD j 0 ≤ 127 := by decide +kernel
theorem nm_key : ∀ i, i < 7 → 0 < (nmL.getD i []).length ∧ ∀ j, j < 7 → (nmL.getD i []).length = (nmL.getD j []).length → (nmL.getD i []).getD 0 0 = (nmL.getD j []).getD 0 0 → i = j := by decide
theorem nm_one {t : Nat → Nat} {i j s e : Nat} (hi : i < 7) (hj : j < 7) (h1 : nmP t i s e) (h2 : nmP t j s e) : i = j := by
  refine (nm_key i hi).2 j hj (by rw [← h1.1, h2.1]) ?_
  rw [← h1.2 0 (nm_key i hi).1, ← h2.2 0 (nm_key j hj).1]
theorem cd_of {t : Nat → Nat} {i s e : Nat} (hi : i < 7) (h : nmP t i s e) : cdE t s e = i := by
  have no : ∀ j, j < 7 → j ≠ i → ¬ nmP t j s e := fun j hj hne q => hne (nm_one hj hi q h)
  unfold cdE
  rcases (show i = 0 ∨ i = 1 ∨ i = 2 ∨ i = 3 ∨ i = 4 ∨ i = 5 ∨ i = 6 by omega) with rfl | rfl | rfl | rfl | rfl | rfl | rfl
  · rw [cs_t h]
  · rw [cs_f (no 0 (by omega) (by omega)), cs_t h]
  · rw [cs_f (no 0 (by omega) (by omega)), cs_f (no 1 (by omega) (by omega)), cs_t h]
  · rw [cs_f (no 0 (by omega) (by omega)), cs_f (no 1 (by omega) (by omega)), cs_f (no 2 (by omega) (by omega)), cs_t h]
  · rw [cs_f (no 0 (by omega) (by omega)), cs_f (no 1 (by omega) (by omega)), cs_f (no 2 (by omega) (by omega)), cs_f (no 3 (by omega) (by omega)), cs_t h]
  · rw [cs_f (no 0 (by omega) (by omega)), cs_f (no 1 (by omega) (by omega)), cs_f (no 2 (by omega) (by omega)), cs_f (no 3 (by omega) (by omega)), cs_f (no 4 (by omega) (by omega)), cs_t h]
  · rw [cs_f (no 0 (by omega) (by omega)), cs_f (no 1 (by omega) (by omega)), cs_f (no 2 (by omega) (by omega)), cs_f (no 3 (by omega) (by omega)), cs_f (no 4 (by omega) (by omega)), cs_f (no 5 (by omega) (by omega)), cs_t h]
theorem cd_no {t : Nat → Nat} {s e : Nat} (h : ∀ i, i < 7 → ¬ nmP t i s e) : cdE t s e = 7 := by
  unfold cdE
  rw [cs_f (h 0 (by omega)), cs_f (h 1 (by omega)), cs_f (h 2 (by omega)), cs_f (h 3 (by omega)), cs_f (h 4 (by omega)), cs_f (h 5 (by omega)), cs_f (h 6 (by omega))]
noncomputable def rlE (t : Nat → Nat) (T : Nat) (S : PS) (k : Tok) : Except ER (PS × Nat) :=
  if k.k = 1 then
    (if cdE t k.s k.n < 4 then heirE t T (cdE t k.s k.n) S k.s k.n
     else if cdE t k.s k.n = 4 then linE t T S k.s k.n
     else if cdE t k.s k.n = 5 then lumE t T S k.s k.n
     else if cdE t k.s k.n = 6 then wrkE t T S k.s k.n
     else .error (2, k.s))
  else .error (2, k.s)
/-! the class reads -/
def FXk (σ τ : Mem) : Prop := (∀ a b, (a = 0 ∨ a = 2 ∨ (12 ≤ a ∧ a ≠ 78)) → τ.1 a b = σ.1 a b) ∧ τ.1 1 1 = σ.1 1 1 ∧ τ.1 1 3 = σ.1 1 3 ∧ τ.2 = σ.2
theorem FXk.rf {σ : Mem} : FXk σ σ := ⟨fun _ _ _ => rfl, rfl, rfl, rfl⟩
theorem FXk.tr {σ τ υ : Mem} (h1 : FXk σ τ) (h2 : FXk τ υ) : FXk σ υ := ⟨fun a b q => (h2.1 a b q).trans (h1.1 a b q), h2.2.1.trans h1.2.1, h2.2.2.1.trans h1.2.2.1, h2.2.2.2.trans h1.2.2.2⟩
theorem FXk.of {σ τ : Mem} (h : ∀ a b, ¬ (a = 1 ∧ 4 ≤ b ∧ b ≤ 9) → τ.1 a b = σ.1 a b) (h2 : τ.2 = σ.2) : FXk σ τ := ⟨fun a b q => h a b (by omega), h 1 1 (by omega), h 1 3 (by omega), h2⟩
theorem TX.kp {σ τ : Mem} {T : Nat} {t : Nat → Nat} (h : TX σ T t) (k : FXk σ τ) : TX τ T t := ⟨h.1, by rw [k.2.1]; exact h.2.1, fun i hi => by rw [k.1 2 i (by omega)]; exact h.2.2 i hi⟩
def PX (σ : Mem) (S : PS) : Prop := RX σ 5 (pA S) ∧ σ.1 1 14 = bI (p4 S) ∧ σ.1 1 15 = bI (p5 S) ∧ σ.1 1 16 = bI (p6 S) ∧ σ.1 1 13 = nI (pc S) ∧ (∀ i, i < pc S → σ.1 3 i = nI (pf S i)) ∧ (∀ v, v < 6 → σ.1 4 v = nI (pp S / 2 ^ v % 2))
theorem PX.fr {σ τ : Mem} {S : PS} (h : PX σ S) (hk : ∀ a b, 1 ≤ a → a < 12 → ¬ (a = 1 ∧ b < 12) → τ.1 a b = σ.1 a b) : PX τ S := by
  obtain ⟨h1, h2, h3, h4, h5, h6, h7⟩ := h
  refine ⟨h1.frame (fun a b q1 q2 => hk a b (by omega) (by omega) (by omega)), ?_, ?_, ?_, ?_, fun i hi => ?_, fun v hv => ?_⟩
  · rw [hk 1 14 (by omega) (by omega) (by omega)]; exact h2
  · rw [hk 1 15 (by omega) (by omega) (by omega)]; exact h3
  · rw [hk 1 16 (by omega) (by omega) (by omega)]; exact h4
  · rw [hk 1 13 (by omega) (by omega) (by omega)]; exact h5
  · rw [hk 3 i (by omega) (by omega) (by omega)]; exact h6 i hi
  · rw [hk 4 v (by omega) (by omega) (by omega)]; exact h7 v hv
theorem x_nw {σ : Mem} {k : Tok} {lo hi : Nat} {Q : Int32 → Mem → Prop} (hlo : lo ≤ 99) (hhi : hi ≤ 99) (h6 : σ.1 1 6 = nI k.k) (h7 : σ.1 1 7 = nI k.s) (h9 : k.k = 2 → σ.1 1 9 = nI k.v) (hk3 : k.k ≤ 3) (hv : k.k = 2 → k.v ≤ 99)
    (h0 : ∀ e : ER, chk (.ok k) lo hi = .error e → ∀ τ : Mem, τ.1 1 4 = nI e.1 → τ.1 1 5 = nI e.2 → (∀ a b, ¬ (a = 1 ∧ 4 ≤ b ∧ b ≤ 5) → τ.1 a b = σ.1 a b) → τ.2 = σ.2 → Q 0 τ)
    (h1 : chk (.ok k) lo hi = .ok (k.v, k.n) → k.k = 2 → lo ≤ k.v → k.v ≤ hi → Q 1 σ) : wp_X4_isNumberWithin (nI lo) (nI hi) σ Q := by
  intro P42 h42
  unfold chk at h0 h1
  simp only at h0 h1
  have fl : ∀ e : ER, (∀ τ : Mem, τ.1 1 4 = nI e.1 → τ.1 1 5 = nI e.2 → (∀ a b, ¬ (a = 1 ∧ 4 ≤ b ∧ b ≤ 5) → τ.1 a b = σ.1 a b) → τ.2 = σ.2 → Q 0 τ) → Q 0 (st1 (st1 σ 1 4 (nI e.1)) 1 5 (nI e.2)) := by
    intro e he
    refine he _ ?_ mm3 (fun a b q => ?_) rfl
    · rw [mm2 (by omega), mm3]
    · rw [st1_get, if_neg (by omega), st1_get, if_neg (by omega)]
  rw [h6, h7]
  by_cases e2 : k.k = 2
  · rw [if_pos e2] at h0 h1
    rw [e2]
    refine ⟨fun _ => ?_, fun q => absurd rfl q⟩
    have hv := hv e2
    rw [h9 e2]
    refine x_wi (fun z => ?_) (fun z => ?_)
    · rw [wc_n (by omega) (by omega) (by omega)] at z
      rw [if_neg z] at h0
      refine b00 ?_
      rw [h7]
      rintro _ rfl _ rfl
      exact b01 (fl (3, k.s) (h0 _ rfl))
    · rw [wc_n (by omega) (by omega) (by omega)] at z
      rw [if_pos z] at h1
      exact b10 (h42 _ (h1 rfl e2 z.1 z.2))
  · rw [if_neg e2] at h0
    refine ⟨fun q => absurd ((nI_eq (b := 2) (by omega) (by omega)).mp q) e2, fun _ => ?_⟩
    rintro _ rfl _ rfl
    exact ⟨Or.inl rfl, fl (2, k.s) (h0 _ rfl)⟩
theorem chk_err {e : ER} {lo hi : Nat} : chk (.error e) lo hi = .error e := rfl
theorem x_tw {σ : Mem} {T p lo hi : Nat} {t : Nat → Nat} {F G : Mem → Prop} (hlo : lo ≤ 99) (hhi : hi ≤ 99) (hT : TX σ T t) (hp : σ.1 1 8 = nI p) (hpT : p ≤ T)
    (h0 : ∀ e : ER, chk (tkE t T p) lo hi = .error e → ∀ τ : Mem, τ.1 1 4 = nI e.1 → τ.1 1 5 = nI e.2 → (∀ a b, ¬ (a = 1 ∧ 4 ≤ b ∧ b ≤ 9) → τ.1 a b = σ.1 a b) → τ.2 = σ.2 → F τ)
    (h1 : ∀ v n, chk (tkE t T p) lo hi = .ok (v, n) → lo ≤ v → v ≤ hi → p ≤ n → n ≤ T → ∀ τ : Mem, τ.1 1 9 = nI v → τ.1 1 8 = nI n → (∀ a b, ¬ (a = 1 ∧ 6 ≤ b ∧ b ≤ 9) → τ.1 a b = σ.1 a b) → τ.2 = σ.2 → G τ) : wp_X4_take σ (fun r σ1 => (r = 0 → F σ1) ∧ (¬ r = 0 → wp_X4_isNumberWithin (nI lo) (nI hi) σ1 (fun r2 σ2 => (¬ r2 = 0 → G σ2) ∧ (r2 = 0 → F σ2)))) := by
  refine x_take hT hp hpT (fun s e τ t1 t2 t3 t4 => b01 ?_) (fun k e τ t1 t2 t3 t4 t5 t6 => b11 ?_)
  · rw [e] at h0
    exact h0 (1, s) rfl τ t1 t2 t3 t4
  · obtain ⟨a1, a2, a3, a4, a5, a6, a7⟩ := tk_ok hpT e
    rw [e] at h0 h1
    refine x_nw hlo hhi t1 t2 t4 a4 a7 (fun e' he υ u1 u2 u3 u4 => b00 ?_) (fun he k2 l1 l2 => b10 ?_)
    · exact h0 e' he υ u1 u2 (fun a b q => by rw [u3 a b (by omega), t5 a b (by omega)]) (u4.trans t6)
    · exact h1 k.v k.n he l1 l2 (by omega) a3 τ (t4 k2) t3 t5 t6
/-- a number of an heir, by the tables' bounds -/
theorem x_tv {σ : Mem} {T p lo hi : Nat} {t : Nat → Nat} {F G : Mem → Prop} {x : Int32} (hx : vp_in x 4) (hl : tLeast.getD x.toNatClampNeg 0 = nI lo) (hh : tGreat.getD x.toNatClampNeg 0 = nI hi) (hlo : lo ≤ 99) (hhi : hi ≤ 99) (hT : TX σ T t) (hp : σ.1 1 8 = nI p) (hpT : p ≤ T)
    (h0 : ∀ e : ER, chk (tkE t T p) lo hi = .error e → ∀ τ : Mem, τ.1 1 4 = nI e.1 → τ.1 1 5 = nI e.2 → (∀ a b, ¬ (a = 1 ∧ 4 ≤ b ∧ b ≤ 9) → τ.1 a b = σ.1 a b) → τ.2 = σ.2 → F τ)
    (h1 : ∀ v n, chk (tkE t T p) lo hi = .ok (v, n) → lo ≤ v → v ≤ hi → p ≤ n → n ≤ T → ∀ τ : Mem, τ.1 1 9 = nI v → τ.1 1 8 = nI n → (∀ a b, ¬ (a = 1 ∧ 6 ≤ b ∧ b ≤ 9) → τ.1 a b = σ.1 a b) → τ.2 = σ.2 → G τ) : wp_X4_take σ (fun r σ1 => (r = 0 → F σ1) ∧ (¬ r = 0 → vp_in x 4 ∧ (vp_in x 4 ∧ (wp_X4_isNumberWithin (tLeast.getD x.toNatClampNeg 0) (tGreat.getD x.toNatClampNeg 0) σ1 (fun r2 σ2 => (¬ r2 = 0 → vp_in x 4 ∧ G σ2) ∧ (r2 = 0 → F σ2)))))) := by
  rw [hl, hh]
  refine x_take hT hp hpT (fun s e τ t1 t2 t3 t4 => b01 ?_) (fun k e τ t1 t2 t3 t4 t5 t6 => b11 ⟨hx, hx, ?_⟩)
  · rw [e] at h0
    exact h0 (1, s) rfl τ t1 t2 t3 t4
  · obtain ⟨a1, a2, a3, a4, a5, a6, a7⟩ := tk_ok hpT e
    rw [e] at h0 h1
    refine x_nw hlo hhi t1 t2 t4 a4 a7 (fun e' he υ u1 u2 u3 u4 => b00 ?_) (fun he k2 l1 l2 => b10 ⟨hx, ?_⟩)
    · exact h0 e' he υ u1 u2 (fun a b q => by rw [u3 a b (by omega), t5 a b (by omega)]) (u4.trans t6)
    · exact h1 k.v k.n he l1 l2 (by omega) a3 τ (t4 k2) t3 t5 t6
theorem x_stp {σ : Mem} {T p : Nat} {t : Nat → Nat} {Q : Int32 → Mem → Prop} (hT : TX σ T t) (hp : σ.1 1 8 = nI p) (hpT : p ≤ T)
    (h0 : ∀ e : ER, stp (tkE t T p) = .error e → ∀ τ : Mem, τ.1 1 4 = nI e.1 → τ.1 1 5 = nI e.2 → (∀ a b, ¬ (a = 1 ∧ 4 ≤ b ∧ b ≤ 9) → τ.1 a b = σ.1 a b) → τ.2 = σ.2 → Q 0 τ)
    (h1 : ∀ n, stp (tkE t T p) = .ok n → p ≤ n → n ≤ T → ∀ τ : Mem, τ.1 1 8 = nI n → (∀ a b, ¬ (a = 1 ∧ 6 ≤ b ∧ b ≤ 9) → τ.1 a b = σ.1 a b) → τ.2 = σ.2 → Q 1 τ) : wp_X4_takeStop σ Q := by
  intro P27 h27
  refine x_take hT hp hpT (fun s e τ t1 t2 t3 t4 => b01 ?_) (fun k e τ t1 t2 t3 t4 t5 t6 => b11 ?_)
  · rw [e] at h0
    exact h0 (1, s) rfl τ t1 t2 t3 t4
  · obtain ⟨a1, a2, a3, a4, a5, a6, a7⟩ := tk_ok hpT e
    rw [e] at h0 h1
    unfold stp at h0 h1
    simp only at h0 h1
    rw [t1, t2]
    by_cases e3 : k.k = 3
    · rw [if_pos e3] at h1
      rw [e3]
      exact ⟨fun _ => h27 _ (h1 k.n rfl (by omega) a3 τ t3 t5 t6), fun q => absurd rfl q⟩
    · rw [if_neg e3] at h0
      refine ⟨fun q => absurd ((nI_eq (b := 3) (by omega) (by omega)).mp q) e3, fun _ => ?_⟩
      rintro _ rfl _ rfl
      refine b01 (h0 (2, k.s) rfl _ ?_ mm3 (fun a b q => ?_) t6)
      · rw [mm2 (by omega), mm3]; rfl
      · rw [st1_get, if_neg (by omega), st1_get, if_neg (by omega)]
        exact t5 a b (by omega)
/-- what a reader of the class owes -/
def PostX (σ : Mem) (r : Except ER (PS × Nat)) (Q : Int32 → Mem → Prop) : Prop :=
  (∀ e : ER, r = .error e → ∀ τ : Mem, τ.1 1 4 = nI e.1 → τ.1 1 5 = nI e.2 → FXk σ τ → Q 0 τ) ∧
  (∀ (S : PS) (q : Nat), r = .ok (S, q) → ∀ τ : Mem, PX τ S → τ.1 1 8 = nI q → τ.1 1 4 = σ.1 1 4 → FXk σ τ → Q 1 τ)
/-- lines without their stop -/
def heirN (t : Nat → Nat) (T : Nat) (k : Nat) (S : PS) (s0 p : Nat) : Except ER (PS × Nat) :=
  if pA S 24 < 6 then
    (match chk (nx t T (chk (nx t T (chk (tkE t T p) 0 20)) 1 20)) 1 30 with
    | .error e => .error e
    | .ok a => .ok ((addA (pA S) k (vl (chk (tkE t T p) 0 20)) (vl (chk (nx t T (chk (tkE t T p) 0 20)) 1 20)) a.1, S.2), a.2))
  else .error (5, s0)
def lumN (t : Nat → Nat) (T : Nat) (S : PS) (s0 p : Nat) : Except ER (PS × Nat) :=
  if p5 S = true then .error (4, s0) else
    (match chk (tkE t T p) 0 9 with
    | .error e => .error e
    | .ok a => .ok ((setA (pA S) 31 a.1, p4 S, true, p6 S, S.2.2.2.2), a.2))
def wrkN (t : Nat → Nat) (T : Nat) (S : PS) (s0 p : Nat) : Except ER (PS × Nat) :=
  if p6 S = true then .error (4, s0) else
    (match chk (tkE t T p) 0 99 with
    | .error e => .error e
    | .ok a => .ok ((setA (pA S) 32 a.1, p4 S, p5 S, true, S.2.2.2.2), a.2))
def stE (t : Nat → Nat) (T : Nat) (r : Except ER (PS × Nat)) : Except ER (PS × Nat) := match r with
  | .error e => .error e
  | .ok a => (match stp (tkE t T a.2) with
    | .error e => .error e
    | .ok q => .ok (a.1, q))
theorem st_er {t : Nat → Nat} {T : Nat} {r : Except ER (PS × Nat)} {e : ER} (h : r = .error e) : stE t T r = .error e := by
  rw [h]
  rfl
theorem st_e2 {t : Nat → Nat} {T q : Nat} {r : Except ER (PS × Nat)} {S : PS} {e : ER} (h : r = .ok (S, q)) (h2 : stp (tkE t T q) = .error e) : stE t T r = .error e := by
  subst h
  unfold stE
  simp only [h2]
theorem st_ok {t : Nat → Nat} {T q n : Nat} {r : Except ER (PS × Nat)} {S : PS} (h : r = .ok (S, q)) (h2 : stp (tkE t T q) = .ok n) : stE t T r = .ok (S, n) := by
  subst h
  unfold stE
  simp only [h2]
theorem heir_st {t : Nat → Nat} {T k s0 p : Nat} {S : PS} : heirE t T k S s0 p = stE t T (heirN t T k S s0 p) := by
  unfold heirE heirN
  by_cases h : pA S 24 < 6
  · rw [if_pos h, if_pos h]
    cases hc : chk (nx t T (chk (nx t T (chk (tkE t T p) 0 20)) 1 20)) 1 30 with
    | error e => rfl
    | ok a =>
      unfold stE
      simp only [nx, vl]
  · rw [if_neg h, if_neg h]
    rfl
theorem lum_st {t : Nat → Nat} {T s0 p : Nat} {S : PS} : lumE t T S s0 p = stE t T (lumN t T S s0 p) := by
  unfold lumE lumN
  by_cases h : p5 S = true
  · rw [if_pos h, if_pos h]
    rfl
  · rw [if_neg h, if_neg h]
    cases hc : chk (tkE t T p) 0 9 with
    | error e => rfl
    | ok a =>
      unfold stE
      simp only [nx, vl]
theorem wrk_st {t : Nat → Nat} {T s0 p : Nat} {S : PS} : wrkE t T S s0 p = stE t T (wrkN t T S s0 p) := by
  unfold wrkE wrkN
  by_cases h : p6 S = true
  · rw [if_pos h, if_pos h]
    rfl
  · rw [if_neg h, if_neg h]
    cases hc : chk (tkE t T p) 0 99 with
    | error e => rfl
    | ok a =>
      unfold stE
      simp only [nx, vl]
/-- what a reader of a line without its stop owes -/
def PostN (σ : Mem) (T : Nat) (r : Except ER (PS × Nat)) (Q : Int32 → Mem → Prop) : Prop :=
  (∀ e : ER, r = .error e → ∀ τ : Mem, τ.1 1 4 = nI e.1 → τ.1 1 5 = nI e.2 → FXk σ τ → Q 0 τ) ∧
  (∀ (S : PS) (q : Nat), r = .ok (S, q) → q ≤ T → ∀ τ : Mem, PX τ S → τ.1 1 8 = nI q → τ.1 1 4 = σ.1 1 4 → FXk σ τ → Q 1 τ)
theorem post_n {σ : Mem} {T : Nat} {t : Nat → Nat} {r : Except ER (PS × Nat)} {Q : Int32 → Mem → Prop} {F : Mem → Prop} (hT : TX σ T t) (hQ : PostX σ (stE t T r) Q) (hF : ∀ τ : Mem, Q 0 τ → F τ) : PostN σ T r (fun r1 σ1 => (r1 = 0 → F σ1) ∧ (¬ r1 = 0 → wp_X4_takeStop σ1 (fun r2 σ2 => (r2 = 0 → F σ2) ∧ (¬ r2 = 0 → Q 1 σ2)))) := by
  refine ⟨fun e he τ t1 t2 t3 => b01 ?_, fun S q he hq τ t1 t2 t3 t4 => b11 ?_⟩
  · exact hF τ (hQ.1 e (st_er he) τ t1 t2 t3)
  · refine x_stp (hT.kp t4) t2 hq (fun e he2 χ c1 c2 c3 c4 => b01 ?_) (fun n he2 n1 n2 χ c1 c2 c3 => b11 ?_)
    · exact hF χ (hQ.1 e (st_e2 he he2) χ c1 c2 (t4.tr (FXk.of c3 c4)))
    · exact hQ.2 S n (st_ok he he2) χ (t1.fr (fun a b q1 q2 q3 => c2 a b (by omega))) c1 (by rw [c2 1 4 (by omega)]; exact t3) (t4.tr (FXk.of (fun a b q => c2 a b (by omega)) c3))
theorem ci_1 : (1 : Int32).toNatClampNeg = 1 ∧ (1 : Int32) + 1 = 2 := by decide
theorem ci_2 : (2 : Int32).toNatClampNeg = 2 ∧ (2 : Int32) + 1 = 3 := by decide
theorem ci_3 : (3 : Int32).toNatClampNeg = 3 ∧ (3 : Int32) + 1 = 4 := by decide
theorem x_rheir {σ : Mem} {T p s0 k : Nat} {t : Nat → Nat} {S : PS} {Q : Int32 → Mem → Prop} (hT : TX σ T t) (hS : PX σ S) (hp : σ.1 1 8 = nI p) (hpT : p ≤ T) (h7 : σ.1 1 7 = nI s0) (hk : k ≤ 3) (hQ : PostN σ T (heirN t T k S s0 p) Q) : wp_X4_readHeir (nI k) σ Q := by
  obtain ⟨hQ0, hQ1⟩ := hQ
  have w6 := hS.1.1.1
  intro P24 h24
  rw [hS.1.2.1]
  unfold heirN at hQ0 hQ1
  refine pk_lt (pA S 24) 6 (fun h6 => ?_) (fun h6 => ?_)
  · rw [if_pos h6] at hQ0 hQ1
    apply h24
    refine ⟨fun z => absurd z (by decide), fun _ => ?_⟩
    refine x_tv (lo := 0) (hi := 20) (pk_in 1 4 (by omega)) rfl rfl (by omega) (by omega) hT hp hpT (fun e he τ t1 t2 t3 t4 => ?_) (fun a p1 he l1 l2 l3 l4 τ t1 t2 t3 t4 => ?_)
    · rw [he] at hQ0
      exact hQ0 e rfl τ t1 t2 (FXk.of t3 t4)
    rw [he] at hQ0 hQ1
    simp only [nx, vl] at hQ0 hQ1
    rintro _ rfl _ rfl
    rw [ci_1.1, ci_1.2, t1]
    have kt : FXk σ (st1 τ 78 1 (nI a)) := (FXk.of (fun a b q => t3 a b (by omega)) t4).tr ⟨fun x y q => mm1 (by omega), mm1 (by omega), mm1 (by omega), rfl⟩
    apply h24
    refine ⟨fun z => absurd z (by decide), fun _ => ?_⟩
    refine x_tv (lo := 1) (hi := 20) (pk_in 2 4 (by omega)) rfl rfl (by omega) (by omega) (hT.kp kt) (by rw [mm1 (by omega)]; exact t2) l4 (fun e he τ' t1' t2' t3' t4' => ?_) (fun b p2 he2 l1' l2' l3' l4' υ u1 u2 u3 u4 => ?_)
    · rw [he] at hQ0
      exact hQ0 e rfl τ' t1' t2' (kt.tr (FXk.of t3' t4'))
    rw [he2] at hQ0 hQ1
    simp only [nx, vl] at hQ0 hQ1
    rintro _ rfl _ rfl
    rw [ci_2.1, ci_2.2, u1]
    have ku : FXk σ (st1 υ 78 2 (nI b)) := (kt.tr (FXk.of (fun a b q => u3 a b (by omega)) u4)).tr ⟨fun x y q => mm1 (by omega), mm1 (by omega), mm1 (by omega), rfl⟩
    apply h24
    refine ⟨fun z => absurd z (by decide), fun _ => ?_⟩
    refine x_tv (lo := 1) (hi := 30) (pk_in 3 4 (by omega)) rfl rfl (by omega) (by omega) (hT.kp ku) (by rw [mm1 (by omega)]; exact u2) l4' (fun e he τ' t1' t2' t3' t4' => ?_) (fun c p3 he3 m1 m2 m3 m4 ψ y1 y2 y3 y4 => ?_)
    · rw [he] at hQ0
      exact hQ0 e rfl τ' t1' t2' (ku.tr (FXk.of t3' t4'))
    rw [he3] at hQ1
    simp only at hQ1
    rintro _ rfl _ rfl
    rw [ci_3.1, ci_3.2, y1]
    have ky : FXk σ (st1 ψ 78 3 (nI c)) := (ku.tr (FXk.of (fun a b q => y3 a b (by omega)) y4)).tr ⟨fun x y q => mm1 (by omega), mm1 (by omega), mm1 (by omega), rfl⟩
    have hSy : PX (st1 ψ 78 3 (nI c)) S := hS.fr (fun a b q1 q2 q3 => by rw [mm1 (by omega), y3 a b (by omega), mm1 (by omega), u3 a b (by omega), mm1 (by omega), t3 a b (by omega)])
    have n1 : (st1 ψ 78 3 (nI c)).1 78 1 = nI a := by rw [mm2 (by omega), y3 78 1 (by omega), mm2 (by omega), u3 78 1 (by omega), mm3]
    have n2 : (st1 ψ 78 3 (nI c)).1 78 2 = nI b := by rw [mm2 (by omega), y3 78 2 (by omega), mm3]
    have n3 : (st1 ψ 78 3 (nI c)).1 78 3 = nI c := mm3
    apply h24
    refine ⟨fun _ => ?_, fun z => absurd (by decide) z⟩
    rw [ci_1.1, ci_2.1, ci_3.1, n1, n2, n3]
    refine x_add hSy.1 hk (by omega) ⟨by omega, by omega⟩ ⟨by omega, by omega⟩ (fun z => by omega) (fun z τ' z1 z2 _ z3 => ⟨Or.inr rfl, ?_⟩)
    have kz : FXk σ τ' := ky.tr ⟨fun a b q => z2 a b (by omega), z2 1 1 (by omega), z2 1 3 (by omega), z3⟩
    refine hQ1 _ p3 rfl m4 τ' ?_ ?_ ?_ kz
    · obtain ⟨-, g2, g3, g4, g5, g6, g7⟩ := hSy
      refine ⟨z1, ?_, ?_, ?_, ?_, fun i hi => ?_, fun v hv => ?_⟩
      · rw [z2 1 14 (by omega)]; exact g2
      · rw [z2 1 15 (by omega)]; exact g3
      · rw [z2 1 16 (by omega)]; exact g4
      · rw [z2 1 13 (by omega)]; exact g5
      · rw [z2 3 i (by omega)]; exact g6 i hi
      · rw [z2 4 v (by omega)]; exact g7 v hv
    · rw [z2 1 8 (by omega), mm1 (by omega)]; exact y2
    · rw [z2 1 4 (by omega), mm1 (by omega), y3 1 4 (by omega), mm1 (by omega), u3 1 4 (by omega), mm1 (by omega), t3 1 4 (by omega)]
  · rw [if_neg (by omega)] at hQ0
    rw [h7]
    rintro _ rfl _ rfl
    refine ⟨Or.inl rfl, hQ0 (5, s0) rfl _ ?_ mm3 (FXk.of (fun a b q => ?_) rfl)⟩
    · rw [mm2 (by omega), mm3]; rfl
    · rw [st1_get, if_neg (by omega), st1_get, if_neg (by omega)]
theorem x_rlum {σ : Mem} {T p s0 : Nat} {t : Nat → Nat} {S : PS} {Q : Int32 → Mem → Prop} (hT : TX σ T t) (hS : PX σ S) (hp : σ.1 1 8 = nI p) (hpT : p ≤ T) (h7 : σ.1 1 7 = nI s0) (hQ : PostN σ T (lumN t T S s0 p) Q) : wp_X4_readLumbago σ Q := by
  obtain ⟨hQ0, hQ1⟩ := hQ
  obtain ⟨g1, g2, g3, g4, g5, g6, g7⟩ := hS
  unfold wp_X4_readLumbago
  unfold lumN at hQ0 hQ1
  cases hb : p5 S with
  | true =>
    rw [hb] at g3 hQ0
    rw [if_pos rfl] at hQ0
    rw [g3, h7]
    refine ⟨fun q => absurd q (by decide), fun _ => ?_⟩
    rintro _ rfl _ rfl
    refine ⟨Or.inl rfl, hQ0 (4, s0) rfl _ ?_ mm3 (FXk.of (fun a b q => ?_) rfl)⟩
    · rw [mm2 (by omega), mm3]; rfl
    · rw [st1_get, if_neg (by omega), st1_get, if_neg (by omega)]
  | false =>
    rw [hb] at g3 hQ0 hQ1
    rw [if_neg (by decide)] at hQ0 hQ1
    rw [g3]
    refine ⟨fun _ => ?_, fun q => absurd rfl q⟩
    rintro _ rfl
    have k0 : FXk σ (st1 σ 1 15 1) := ⟨fun a b q => mm1 (by omega), mm2 (by omega), mm2 (by omega), rfl⟩
    refine x_tw (lo := 0) (hi := 9) (by omega) (by omega) (hT.kp k0) (by rw [mm2 (by omega)]; exact hp) hpT (fun e he τ t1 t2 t3 t4 => ?_) (fun a p1 he l1 l2 l3 l4 τ t1 t2 t3 t4 => ?_)
    · rw [he] at hQ0
      exact hQ0 e rfl τ t1 t2 (k0.tr (FXk.of t3 t4))
    rw [he] at hQ1
    simp only at hQ1
    have kt : FXk σ τ := k0.tr (FXk.of (fun a b q => t3 a b (by omega)) t4)
    rw [t1]
    rintro _ rfl
    have g1t : RX τ 5 (pA S) := g1.frame (fun a b q1 q2 => by rw [t3 a b (by omega), mm1 (by omega)])
    have g1s : RX (st1 τ 5 3 (nI a)) 5 (setA (pA S) 31 a) := g1t.set31 (by omega)
    have kz : FXk σ (st1 τ 5 3 (nI a)) := kt.tr ⟨fun x y q => mm1 (by omega), mm1 (by omega), mm1 (by omega), rfl⟩
    refine hQ1 _ p1 rfl l4 _ ?_ ?_ ?_ kz
    · refine ⟨g1s, ?_, ?_, ?_, ?_, fun i hi => ?_, fun v hv => ?_⟩
      · rw [mm1 (by omega), t3 1 14 (by omega), mm2 (by omega)]; exact g2
      · rw [mm1 (by omega), t3 1 15 (by omega), mm3]; rfl
      · rw [mm1 (by omega), t3 1 16 (by omega), mm2 (by omega)]; exact g4
      · rw [mm1 (by omega), t3 1 13 (by omega), mm2 (by omega)]; exact g5
      · rw [mm1 (by omega), t3 3 i (by omega), mm1 (by omega)]; exact g6 i hi
      · rw [mm1 (by omega), t3 4 v (by omega), mm1 (by omega)]; exact g7 v hv
    · rw [mm1 (by omega)]; exact t2
    · rw [mm1 (by omega), t3 1 4 (by omega), mm2 (by omega)]
theorem x_rwrk {σ : Mem} {T p s0 : Nat} {t : Nat → Nat} {S : PS} {Q : Int32 → Mem → Prop} (hT : TX σ T t) (hS : PX σ S) (hp : σ.1 1 8 = nI p) (hpT : p ≤ T) (h7 : σ.1 1 7 = nI s0) (hQ : PostN σ T (wrkN t T S s0 p) Q) : wp_X4_readWorks σ Q := by
  obtain ⟨hQ0, hQ1⟩ := hQ
  obtain ⟨g1, g2, g3, g4, g5, g6, g7⟩ := hS
  unfold wp_X4_readWorks
  unfold wrkN at hQ0 hQ1
  cases hb : p6 S with
  | true =>
    rw [hb] at g4 hQ0
    rw [if_pos rfl] at hQ0
    rw [g4, h7]
    refine ⟨fun q => absurd q (by decide), fun _ => ?_⟩
    rintro _ rfl _ rfl
    refine ⟨Or.inl rfl, hQ0 (4, s0) rfl _ ?_ mm3 (FXk.of (fun a b q => ?_) rfl)⟩
    · rw [mm2 (by omega), mm3]; rfl
    · rw [st1_get, if_neg (by omega), st1_get, if_neg (by omega)]
  | false =>
    rw [hb] at g4 hQ0 hQ1
    rw [if_neg (by decide)] at hQ0 hQ1
    rw [g4]
    refine ⟨fun _ => ?_, fun q => absurd rfl q⟩
    rintro _ rfl
    have k0 : FXk σ (st1 σ 1 16 1) := ⟨fun a b q => mm1 (by omega), mm2 (by omega), mm2 (by omega), rfl⟩
    refine x_tw (lo := 0) (hi := 99) (by omega) (by omega) (hT.kp k0) (by rw [mm2 (by omega)]; exact hp) hpT (fun e he τ t1 t2 t3 t4 => ?_) (fun a p1 he l1 l2 l3 l4 τ t1 t2 t3 t4 => ?_)
    · rw [he] at hQ0
      exact hQ0 e rfl τ t1 t2 (k0.tr (FXk.of t3 t4))
    rw [he] at hQ1
    simp only at hQ1
    have kt : FXk σ τ := k0.tr (FXk.of (fun a b q => t3 a b (by omega)) t4)
    rw [t1]
    rintro _ rfl
    have g1t : RX τ 5 (pA S) := g1.frame (fun a b q1 q2 => by rw [t3 a b (by omega), mm1 (by omega)])
    have g1s : RX (st1 τ 5 4 (nI a)) 5 (setA (pA S) 32 a) := g1t.set32 (by omega)
    have kz : FXk σ (st1 τ 5 4 (nI a)) := kt.tr ⟨fun x y q => mm1 (by omega), mm1 (by omega), mm1 (by omega), rfl⟩
    refine hQ1 _ p1 rfl l4 _ ?_ ?_ ?_ kz
    · refine ⟨g1s, ?_, ?_, ?_, ?_, fun i hi => ?_, fun v hv => ?_⟩
      · rw [mm1 (by omega), t3 1 14 (by omega), mm2 (by omega)]; exact g2
      · rw [mm1 (by omega), t3 1 15 (by omega), mm2 (by omega)]; exact g3
      · rw [mm1 (by omega), t3 1 16 (by omega), mm3]; rfl
      · rw [mm1 (by omega), t3 1 13 (by omega), mm2 (by omega)]; exact g5
      · rw [mm1 (by omega), t3 3 i (by omega), mm1 (by omega)]; exact g6 i hi
      · rw [mm1 (by omega), t3 4 v (by omega), mm1 (by omega)]; exact g7 v hv
    · rw [mm1 (by omega)]; exact t2
    · rw [mm1 (by omega), t3 1 4 (by omega), mm2 (by omega)]
def popc (n : Nat) : Nat := n % 2 + n / 2 % 2 + n / 4 % 2 + n / 8 % 2 + n / 16 % 2 + n / 32 % 2
theorem popc_le (n : Nat) : popc n ≤ 6 := by unfold popc; omega
theorem bt_put : ∀ p, p < 64 → ∀ v, v < 6 → p / 2 ^ v % 2 = 0 → p + 2 ^ v < 64 ∧ popc (p + 2 ^ v) = popc p + 1 ∧ popc p < 6 ∧ ∀ w, w < 6 → (p + 2 ^ v) / 2 ^ w % 2 = if w = v then 1 else p / 2 ^ w % 2 := by decide +kernel
theorem x_rfst {σ : Mem} {T p s0 : Nat} {t : Nat → Nat} {S : PS} {Q : Int32 → Mem → Prop} (hT : TX σ T t) (hS : PX σ S) (hp : σ.1 1 8 = nI p) (hpT : p ≤ T) (h7 : σ.1 1 7 = nI s0) (hi : p4 S = false → pc S = 0 ∧ pp S = 0) (hQ : PostX σ (linE t T S s0 p) Q) : wp_X4_readFirsts σ Q := by
  obtain ⟨hQ0, hQ1⟩ := hQ
  intro P24 P81 h24 h81
  unfold linE at hQ0 hQ1
  cases hb : p4 S with
  | true =>
    rw [hb] at hQ0
    rw [if_pos rfl] at hQ0
    rw [hS.2.1, hb, h7]
    refine ⟨fun q => absurd q (by decide), fun _ => ?_⟩
    rintro _ rfl _ rfl
    refine ⟨Or.inl rfl, hQ0 (4, s0) rfl _ ?_ mm3 (FXk.of (fun a b q => ?_) rfl)⟩
    · rw [mm2 (by omega), mm3]; rfl
    · rw [st1_get, if_neg (by omega), st1_get, if_neg (by omega)]
  | false =>
    rw [hb] at hQ0 hQ1
    rw [if_neg (by decide)] at hQ0 hQ1
    obtain ⟨hc0, hp0⟩ := hi hb
    rw [hS.2.1, hb]
    refine ⟨fun _ => ?_, fun q => absurd rfl q⟩
    rintro _ rfl
    obtain ⟨W0, hW⟩ : ∃ W0, fstE t T 7 (pA S, true, p5 S, p6 S, S.2.2.2.2) p = W0 := ⟨_, rfl⟩
    rw [hW] at hQ0 hQ1
    have key : ∀ (m : Nat) (R : PS) (q : Nat) (τ : Mem), pc R + m = 7 → pp R < 64 → pc R = popc (pp R) → PX τ R → τ.1 1 8 = nI q → q ≤ T → τ.1 1 4 = σ.1 1 4 → FXk σ τ → W0 = fstE t T m R q → P24 (nI (pc R)) τ := by
      intro m
      induction m with
      | zero =>
        intro R q τ hm hpp hpc _ _ _ _ _ _
        have := popc_le (pp R)
        omega
      | succ m ih =>
        intro R q τ hm hpp hpc hR hq hqT h4 hK e
        apply h24
        refine pk_lt 6 (pc R) (fun z => by omega) (fun _ => ?_)
        unfold fstE at e
        refine x_take (hT.kp hK) hq hqT (fun s he τ' t1 t2 t3 t4 => b00 ?_) (fun k he τ' t1 t2 t3 t4 t5 t6 => b10 ?_)
        · rw [he] at e
          exact hQ0 _ e τ' t1 t2 (hK.tr (FXk.of t3 t4))
        · rw [he] at e
          simp only at e
          obtain ⟨a1, a2, a3, a4, a5, a6, a7⟩ := tk_ok hqT he
          have kt : FXk σ τ' := hK.tr (FXk.of (fun a b q => t5 a b (by omega)) t6)
          have hR' : PX τ' R := hR.fr (fun a b q1 q2 q3 => t5 a b (by omega))
          rw [t1]
          by_cases e3 : k.k = 3
          · rw [if_pos e3] at e
            rw [e3]
            refine ⟨fun z => absurd rfl z, fun _ => ?_⟩
            exact hQ1 R k.n e τ' hR' t3 (by rw [t5 1 4 (by omega)]; exact h4) kt
          · rw [if_neg e3] at e
            refine ⟨fun _ => ?_, fun z => absurd ((nI_eq (b := 3) (by omega) (by omega)).mp z) e3⟩
            refine x_nw (lo := 0) (hi := 5) (by omega) (by omega) t1 t2 t4 a4 a7 (fun e' he' υ u1 u2 u3 u4 => b00 ?_) (fun he' k2 l1 l2 => b10 ?_)
            · rw [he'] at e
              exact hQ0 _ e υ u1 u2 (kt.tr (FXk.of (fun a b q => u3 a b (by omega)) u4))
            · rw [he'] at e
              simp only at e
              rw [t4 k2, nI_clamp (show k.v < 2 ^ 31 by omega), hR'.2.2.2.2.2.2 k.v (by omega)]
              refine ⟨pk_in k.v 6 (by omega), fun z => ?_, fun z => ?_⟩
              · have z' : ¬ pp R / 2 ^ k.v % 2 = 0 := fun y => z (by rw [y]; rfl)
                rw [if_neg z'] at e
                apply h81
                rw [t2]
                rintro _ rfl _ rfl
                refine ⟨Or.inl rfl, hQ0 _ e _ ?_ mm3 (kt.tr (FXk.of (fun a b q => ?_) rfl))⟩
                · rw [mm2 (by omega), mm3]; rfl
                · rw [st1_get, if_neg (by omega), st1_get, if_neg (by omega)]
              · have z' : pp R / 2 ^ k.v % 2 = 0 := (nI_eq (b := 0) (by omega) (by omega)).mp z
                rw [if_pos z'] at e
                obtain ⟨q1, q2, q3, q4⟩ := bt_put (pp R) hpp k.v (by omega) z'
                rw [hR'.2.2.2.2.1]
                refine pk_lt (pc R) 6 (fun _ => ⟨pk_in k.v 6 (by omega), ?_⟩) (fun y => by omega)
                rintro _ rfl
                rw [mm1 (show (1 : Nat) ≠ 4 by omega), mm1 (show (1 : Nat) ≠ 4 by omega), hR'.2.2.2.2.1, t4 k2, nI_clamp (show pc R < 2 ^ 31 by omega)]
                refine ⟨pk_in (pc R) 6 (by omega), ?_⟩
                rintro _ rfl
                rw [mm1 (show (1 : Nat) ≠ 3 by omega), mm1 (show (1 : Nat) ≠ 4 by omega), hR'.2.2.2.2.1, nI_1]
                rintro _ rfl _ rfl
                refine ih (putF R k.v) k.n _ (by show pc R + 1 + m = 7; omega) q1 (by show pc R + 1 = popc (pp R + 2 ^ k.v); omega) ?_ ?_ a3 ?_ (kt.tr ⟨fun a b q => ?_, ?_, ?_, rfl⟩) e
                · obtain ⟨g1, g2, g3, g4, g5, g6, g7⟩ := hR'
                  refine ⟨g1.frame (fun a b q1 q2 => by rw [mm1 (by omega), mm1 (by omega), mm1 (by omega)]), ?_, ?_, ?_, mm3, fun i hi => ?_, fun w hw => ?_⟩
                  · rw [mm2 (by omega), mm1 (by omega), mm1 (by omega)]; exact g2
                  · rw [mm2 (by omega), mm1 (by omega), mm1 (by omega)]; exact g3
                  · rw [mm2 (by omega), mm1 (by omega), mm1 (by omega)]; exact g4
                  · rw [mm1 (by omega)]
                    show _ = nI (if i = pc R then k.v else pf R i)
                    by_cases y : i = pc R
                    · rw [if_pos y, y, mm3]
                    · have hi' : i < pc R + 1 := hi
                      rw [if_neg y, mm2 y, mm1 (by omega)]
                      exact g6 i (by omega)
                  · rw [mm1 (by omega), mm1 (by omega)]
                    show _ = nI ((pp R + 2 ^ k.v) / 2 ^ w % 2)
                    rw [q4 w hw]
                    by_cases y : w = k.v
                    · rw [if_pos y, y, mm3]; rfl
                    · rw [if_neg y, mm2 y]
                      exact g7 w hw
                · rw [mm2 (by omega), mm1 (by omega), mm1 (by omega)]; exact t3
                · rw [mm2 (by omega), mm1 (by omega), mm1 (by omega), t5 1 4 (by omega)]; exact h4
                · rw [mm1 (by omega), mm1 (by omega), mm1 (by omega)]
                · rw [mm2 (by omega), mm1 (by omega), mm1 (by omega)]
                · rw [mm2 (by omega), mm1 (by omega), mm1 (by omega)]
    have := key 7 (pA S, true, p5 S, p6 S, S.2.2.2.2) p (st1 σ 1 14 1) (by show pc S + 7 = 7; omega) (by show pp S < 64; omega) (by show pc S = popc (pp S); rw [hc0, hp0]; rfl) ?_ (by rw [mm2 (by omega)]; exact hp) hpT (mm2 (by omega)) ⟨fun a b q => mm1 (by omega), mm2 (by omega), mm2 (by omega), rfl⟩ hW.symm
    · have e0 : pc (pA S, true, p5 S, p6 S, S.2.2.2.2) = 0 := hc0
      rw [e0] at this
      exact this
    · obtain ⟨g1, g2, g3, g4, g5, g6, g7⟩ := hS
      refine ⟨g1.frame (fun a b q1 q2 => mm1 (by omega)), by rw [mm3]; rfl, ?_, ?_, ?_, fun i hi => ?_, fun v hv => ?_⟩
      · rw [mm2 (by omega)]; exact g3
      · rw [mm2 (by omega)]; exact g4
      · rw [mm2 (by omega)]; exact g5
      · rw [mm1 (by omega)]; exact g6 i hi
      · rw [mm1 (by omega)]; exact g7 v hv
theorem x_named {σ : Mem} {T s e i : Nat} {t : Nat → Nat} {Q : Int32 → Mem → Prop} (hT : TX σ T t) (hi : i < 7) (h7 : σ.1 1 7 = nI s) (h8 : σ.1 1 8 = nI e) (hse : s ≤ e) (heT : e ≤ T) (h1 : nmP t i s e → Q 1 σ) (h0 : ¬ nmP t i s e → Q 0 σ) : wp_X4_isNamed i σ Q := by
  obtain ⟨T6, e1, e2⟩ := hT
  obtain ⟨l1, l2⟩ := nm_len i hi
  intro P20 h20
  intro r9 σ8 hr9 hσ8
  rw [hr9, hσ8, h7, h8, pk_sub hse, l1]
  have ne0 := nm_byt i hi
  unfold nmP at h0 h1
  generalize nmL.getD i [] = L at l1 l2 h0 h1 ne0
  refine ⟨fun z => ?_, fun z => h0 (fun q => z (by rw [q.1]))⟩
  have z' : e - s = L.length := (nI_eq (by omega) (by omega)).mp z
  have key : ∀ m j : Nat, j + m = L.length → (∀ j', j' < j → t (s + j') = L.getD j' 0) → P20 (nI j) σ := by
    intro m
    induction m with
    | zero =>
      intro j hj hm
      apply h20
      rintro _ _ rfl rfl
      rw [l1]
      exact pk_le L.length j (fun _ => h1 ⟨z', fun j' hj' => hm j' (by omega)⟩) (fun q => by omega)
    | succ m ih =>
      intro j hj hm
      apply h20
      rintro _ _ rfl rfl
      rw [l1]
      refine pk_le L.length j (fun q => by omega) (fun _ => ?_)
      have hc := e2 (s + j) (by omega)
      have hb := ne0 j (by omega)
      rw [h7, nI_add, nI_clamp (show s + j < 2 ^ 31 by omega), hc.2]
      refine ⟨pk_in (s + j) 160 (by omega), pk_in j L.length (by omega), ?_⟩
      rintro _ _ rfl rfl
      rw [nI_clamp (show j < 2 ^ 31 by omega), hb.1]
      refine ⟨fun y => ?_, fun y => h0 (fun q => y ?_)⟩
      · have y' : t (s + j) = L.getD j 0 := (nI_eq (by omega) (by omega)).mp y
        rintro _ rfl
        rw [nI_1]
        refine ih (j + 1) (by omega) (fun j' hj' => ?_)
        by_cases e : j' = j
        · rw [e]; exact y'
        · exact hm j' (by omega)
      · rw [q.2 j (by omega)]
  exact key L.length 0 (by omega) (fun j' hj' => by omega)
theorem ne_4 : ∀ i, i < 4 → ¬ nI i = (-4 : Int32) := by decide +kernel
theorem x_kind {σ : Mem} {T s e : Nat} {t : Nat → Nat} {Q : Int32 → Mem → Prop} (hT : TX σ T t) (h7 : σ.1 1 7 = nI s) (h8 : σ.1 1 8 = nI e) (hse : s ≤ e) (heT : e ≤ T) (h1 : ∀ i, i < 4 → nmP t i s e → Q (nI i) σ) (h0 : (∀ i, i < 4 → ¬ nmP t i s e) → Q (-4) σ) : wp_X4_kindNamed σ Q := by
  unfold wp_X4_kindNamed
  refine x_named hT (i := 0) (by omega) h7 h8 hse heT (fun y => b11 (h1 0 (by omega) y)) (fun y0 => b01 ?_)
  refine x_named hT (i := 1) (by omega) h7 h8 hse heT (fun y => b11 (h1 1 (by omega) y)) (fun y1 => b01 ?_)
  refine x_named hT (i := 2) (by omega) h7 h8 hse heT (fun y => b11 (h1 2 (by omega) y)) (fun y2 => b01 ?_)
  refine x_named hT (i := 3) (by omega) h7 h8 hse heT (fun y => b11 (h1 3 (by omega) y)) (fun y3 => b01 ?_)
  refine h0 (fun i hi => ?_)
  rcases (show i = 0 ∨ i = 1 ∨ i = 2 ∨ i = 3 by omega) with rfl | rfl | rfl | rfl
  · exact y0
  · exact y1
  · exact y2
  · exact y3
theorem x_rl {σ : Mem} {T : Nat} {t : Nat → Nat} {S : PS} {k : Tok} {Q : Int32 → Mem → Prop} (hT : TX σ T t) (hS : PX σ S) (h6 : σ.1 1 6 = nI k.k) (h7 : σ.1 1 7 = nI k.s) (h8 : σ.1 1 8 = nI k.n) (hk3 : k.k ≤ 3) (hsn : k.s ≤ k.n) (hnT : k.n ≤ T) (hi : p4 S = false → pc S = 0 ∧ pp S = 0) (hQ : PostX σ (rlE t T S k) Q) : wp_X4_readLine σ Q := by
  intro P120 h120
  unfold rlE at hQ
  rw [h6]
  have bad : PostX σ (.error (2, k.s)) Q → wp_X4_fail (2 : Int32) (σ.1 1 7) σ (fun r σ' => (r = 0 ∨ r = 1) ∧ Q r σ') := by
    intro h
    rw [h7]
    rintro _ rfl _ rfl
    refine ⟨Or.inl rfl, h.1 (2, k.s) rfl _ ?_ mm3 (FXk.of (fun a b q => ?_) rfl)⟩
    · rw [mm2 (by omega), mm3]; rfl
    · rw [st1_get, if_neg (by omega), st1_get, if_neg (by omega)]
  by_cases e1 : k.k = 1
  · rw [if_pos e1] at hQ
    rw [e1]
    refine ⟨fun _ => ?_, fun q => absurd rfl q⟩
    have wr : ∀ r, PostX σ r Q → PostX σ r (fun r τ => (r = 0 ∨ r = 1) ∧ Q r τ) := fun r h => ⟨fun e he τ a1 a2 a3 => ⟨Or.inl rfl, h.1 e he τ a1 a2 a3⟩, fun S' q he τ a1 a2 a3 a4 => ⟨Or.inr rfl, h.2 S' q he τ a1 a2 a3 a4⟩⟩
    refine x_kind hT h7 h8 hsn hnT (fun i i4 y => ⟨fun q => absurd q (ne_4 i i4), fun _ => ?_⟩) (fun no => ⟨fun _ => ?_, fun q => absurd rfl q⟩)
    · rw [cd_of (by omega) y, if_pos i4, heir_st] at hQ
      exact x_rheir (k := i) hT hS h8 hnT h7 (by omega) (post_n hT hQ (fun _ h => h))
    refine x_named hT (i := 4) (by omega) h7 h8 hsn hnT (fun y => b11 ?_) (fun y4 => b01 ?_)
    · rw [cd_of (by omega) y, if_neg (by omega), if_pos rfl] at hQ
      exact x_rfst hT hS h8 hnT h7 hi (wr _ hQ)
    refine x_named hT (i := 5) (by omega) h7 h8 hsn hnT (fun y => b11 ?_) (fun y5 => b01 ?_)
    · rw [cd_of (by omega) y, if_neg (by omega), if_neg (by omega), if_pos rfl, lum_st] at hQ
      exact x_rlum hT hS h8 hnT h7 (post_n hT hQ (fun _ h => h))
    refine x_named hT (i := 6) (by omega) h7 h8 hsn hnT (fun y => b11 ?_) (fun y6 => b01 ?_)
    · rw [cd_of (by omega) y, if_neg (by omega), if_neg (by omega), if_neg (by omega), if_pos rfl, wrk_st] at hQ
      exact x_rwrk hT hS h8 hnT h7 (post_n hT hQ (fun τ h => h120 τ h))
    have hno : ∀ i, i < 7 → ¬ nmP t i k.s k.n := by
      intro i hi
      rcases (show i < 4 ∨ i = 4 ∨ i = 5 ∨ i = 6 by omega) with h | rfl | rfl | rfl
      · exact no i h
      · exact y4
      · exact y5
      · exact y6
    rw [cd_no hno, if_neg (by omega), if_neg (by omega), if_neg (by omega), if_neg (by omega)] at hQ
    exact bad hQ
  · rw [if_neg e1] at hQ
    exact ⟨fun q => absurd ((nI_eq (b := 1) (by omega) (by omega)).mp q) e1, fun _ => bad hQ⟩
