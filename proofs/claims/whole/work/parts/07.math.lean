/-! Numbers, and what a state is: s is the reference's row of 81 numbers. -/
def bi (b : Bool) : Int32 := if b then 1 else 0
theorem bi_t : bi true = 1 := rfl
theorem bi_f : bi false = 0 := rfl
theorem bi_eq0 {b : Bool} : bi b = 0 ↔ b = false := by cases b <;> decide
theorem bi_ne0 {b : Bool} : ¬ bi b = 0 ↔ b = true := by cases b <;> decide
theorem bi_eq1 {b : Bool} : bi b = 1 ↔ b = true := by cases b <;> decide
theorem bz_bi (b : Bool) : bz (bi b) := by cases b <;> (unfold bz; decide)
theorem bz_0 : bz 0 := by unfold bz; decide
theorem bz_1 : bz 1 := by unfold bz; decide
theorem lt_iff32 (a b : Int32) : a < b ↔ a.toInt < b.toInt := Int32.lt_iff_toInt_lt
theorem le_iff32 (a b : Int32) : a ≤ b ↔ a.toInt ≤ b.toInt := Int32.le_iff_toInt_le
theorem eq_iff32 (a b : Int32) : a = b ↔ a.toInt = b.toInt := Int32.toInt_inj.symm
theorem lit32 (n : Nat) : (OfNat.ofNat n : Int32) = nI n := rfl
theorem ix_nI {n : Nat} (h : n < 2 ^ 31) : (nI n).toNatClampNeg = n := nI_clamp h
theorem rng32 (x : Int32) : -2147483648 ≤ x.toInt ∧ x.toInt < 2147483648 := by
  have h1 := Int32.le_toInt x
  have h2 := Int32.toInt_lt x
  constructor <;> simpa using by omega
theorem ix_toInt (x : Int32) (h : 0 ≤ x.toInt) : (x.toNatClampNeg : Int) = x.toInt := by
  show ((x.toInt.toNat : Nat) : Int) = x.toInt
  omega
theorem nI_ix {x : Int32} (h : 0 ≤ x.toInt) : nI x.toNatClampNeg = x := by
  have h1 := rng32 x
  have h2 := ix_toInt x h
  rw [eq_iff32, nI_toInt (by omega)]
  exact h2
/-- x is one of 0 .. n - 1 -/
def inR (n : Nat) (x : Int32) : Bool := decide (0 ≤ x.toInt ∧ x.toNatClampNeg < n)
theorem inR_ex {n : Nat} {x : Int32} (h : inR n x = true) : x.toNatClampNeg < n ∧ x = nI x.toNatClampNeg := by
  simp only [inR, decide_eq_true_eq] at h
  exact ⟨h.2, (nI_ix h.1).symm⟩
theorem inR_nI {n j : Nat} (h : j < 2 ^ 31) : inR n (nI j) = decide (j < n) := by
  simp only [inR, ix_nI h, nI_toInt h]
  have : (0 : Int) ≤ (j : Int) := by omega
  simp [this]
theorem inR_neg {n : Nat} {x : Int32} (h : x < 0) : inR n x = false := by
  rw [lt_iff32] at h
  have h0 : (0 : Int32).toInt = 0 := rfl
  rw [h0] at h
  simp only [inR, decide_eq_false_iff_not]
  omega
theorem inR_big {n : Nat} {x : Int32} (hn : n < 2 ^ 31) (h : nI n ≤ x) : inR n x = false := by
  rw [le_iff32, nI_toInt hn] at h
  have := ix_toInt x (by omega)
  simp only [inR, decide_eq_false_iff_not]
  omega
theorem inR_yes {n : Nat} {x : Int32} (hn : n < 2 ^ 31) (h0 : ¬ x < 0) (h : ¬ nI n ≤ x) : inR n x = true := by
  rw [lt_iff32, show (0 : Int32).toInt = 0 from rfl] at h0
  rw [le_iff32, nI_toInt hn] at h
  have := ix_toInt x (by omega)
  simp only [inR, decide_eq_true_eq]
  omega
theorem vp_inR {n N : Nat} {x : Int32} (h : inR n x = true) (hN : n ≤ N) (h2 : N < 2 ^ 31) : vp_in x N := by
  obtain ⟨h1, h3⟩ := inR_ex h
  rw [h3]
  exact vp_in_nI (by omega) h2
theorem vp_nI {n N : Nat} (h : n < N) (h2 : N < 2 ^ 31) : vp_in (nI n) N := vp_in_nI h h2
theorem nI_ne_neg {n : Nat} (h : n < 2 ^ 31) {x : Int32} (hx : x.toInt < 0) : ¬ nI n = x := by
  rw [eq_iff32, nI_toInt h]; omega
theorem neg_ne_nI {n : Nat} (h : n < 2 ^ 31) {x : Int32} (hx : x.toInt < 0) : ¬ x = nI n := by
  rw [eq_iff32, nI_toInt h]; omega
abbrev St : Type := Nat → Nat
def OkO (s : St) (i : Nat) : Prop := s (1 + i) ≤ 3 ∧ s (31 + i) ≤ 5 ∧ (s (1 + i) = 0 → s (11 + i) ≤ 15) ∧ (s (1 + i) = 1 → s (11 + i) ≤ 3 ∧ s (21 + i) < s 0) ∧ (s (1 + i) = 2 → s (11 + i) ≤ 3) ∧ (s (1 + i) = 3 → s (11 + i) < s 0 ∧ s (1 + s (11 + i)) = 0)
/-- a state as the document has it -/
def WF (s : St) : Prop := s 0 ≤ 10 ∧ (∀ i, i < s 0 → OkO s i) ∧ s 41 ≤ 10 ∧ (∀ k, k < s 41 → s (42 + 2 * k) < s 0 ∧ (s (1 + s (42 + 2 * k)) = 0 ∨ s (1 + s (42 + 2 * k)) = 3) ∧ s (42 + 2 * k + 1) < s 0) ∧ s 62 ≤ 4 ∧ (∀ k, k < s 62 → s (63 + 2 * k) < s 0 ∧ s (63 + 2 * k + 1) < s 0) ∧ ∀ i, i < 10 → s (71 + i) < 1024
/-- the class's State at the cell b holds s -/
def CS (b : Nat) (s : St) (g : Mem) : Prop :=
  g b 0 = nI (s 0) ∧ (∀ i, i < s 0 → g (b + 1) i = nI (s (1 + i))) ∧ (∀ i, i < s 0 → s (1 + i) ≠ 3 → g (b + 2) i = nI (s (11 + i))) ∧
  (∀ i, i < s 0 → (s (1 + i) = 1 → g (b + 3) i = nI (s (21 + i))) ∧ (s (1 + i) = 3 → g (b + 3) i = nI (s (11 + i)))) ∧ (∀ i, i < s 0 → g (b + 4) i = nI (s (31 + i))) ∧
  g b 5 = nI (s 41) ∧ (∀ k, k < s 41 → g (b + 5) k = nI (s (42 + 2 * k)) ∧ g (b + 6) k = nI (s (42 + 2 * k + 1))) ∧
  g b 8 = nI (s 62) ∧ (∀ k, k < s 62 → g (b + 7) k = nI (s (63 + 2 * k)) ∧ g (b + 8) k = nI (s (63 + 2 * k + 1))) ∧ ∀ i, i < 10 → g (b + 9) i = nI (s (71 + i))
/-- the reference holds s -/
def MA (q : Nat) (s : St) (g : Mem) : Prop := ∀ j, j < 81 → g q j = nI (s j)
def CW (b : Nat) (s : St) (g : Mem) : Prop := CS b s g ∧ WF s
def MW (q : Nat) (s : St) (g : Mem) : Prop := MA q s g ∧ WF s
theorem WF.n {s : St} (h : WF s) : s 0 ≤ 10 := h.1
theorem WF.o {s : St} (h : WF s) {i : Nat} (hi : i < s 0) : OkO s i := h.2.1 i hi
theorem WF.kd {s : St} (h : WF s) {i : Nat} (hi : i < s 0) : s (1 + i) ≤ 3 := (h.2.1 i hi).1
theorem WF.nr {s : St} (h : WF s) : s 41 ≤ 10 := h.2.2.1
theorem WF.rf {s : St} (h : WF s) {k : Nat} (hk : k < s 41) : s (42 + 2 * k) < s 0 ∧ (s (1 + s (42 + 2 * k)) = 0 ∨ s (1 + s (42 + 2 * k)) = 3) ∧ s (42 + 2 * k + 1) < s 0 := h.2.2.2.1 k hk
theorem WF.nq {s : St} (h : WF s) : s 62 ≤ 4 := h.2.2.2.2.1
theorem WF.rq {s : St} (h : WF s) {k : Nat} (hk : k < s 62) : s (63 + 2 * k) < s 0 ∧ s (63 + 2 * k + 1) < s 0 := h.2.2.2.2.2.1 k hk
theorem WF.rn {s : St} (h : WF s) {i : Nat} (hi : i < 10) : s (71 + i) < 1024 := h.2.2.2.2.2.2 i hi
theorem WF.fi {s : St} (h : WF s) {i : Nat} (hi : i < s 0) : s (11 + i) ≤ 15 := by
  obtain ⟨h1, h2, h3, h4, h5, h6⟩ := h.o hi
  have hn := h.n
  rcases (show s (1 + i) = 0 ∨ s (1 + i) = 1 ∨ s (1 + i) = 2 ∨ s (1 + i) = 3 by omega) with e | e | e | e
  · exact h3 e
  · have := (h4 e).1; omega
  · have := h5 e; omega
  · have := (h6 e).1; omega
/-- the first i of a run of n from i on that p has; behind the run if there is none -/
def ff (p : Nat → Bool) : Nat → Nat → Nat
  | i, 0 => i
  | i, n + 1 => if p i then i else ff p (i + 1) n
theorem ff_bounds (p : Nat → Bool) : ∀ n i, i ≤ ff p i n ∧ ff p i n ≤ i + n
  | 0, i => ⟨Nat.le_refl _, Nat.le_refl _⟩
  | n + 1, i => by
    have h := ff_bounds p n (i + 1)
    rw [ff]
    split <;> omega
theorem ff_yes (p : Nat → Bool) : ∀ n i, ff p i n < i + n → p (ff p i n) = true
  | 0, i, h => by simp [ff] at h
  | n + 1, i, h => by
    rw [ff] at h ⊢
    by_cases hp : p i
    · rw [if_pos hp]; exact hp
    · rw [if_neg hp] at h ⊢
      exact ff_yes p n (i + 1) (by omega)
theorem ff_no (p : Nat → Bool) : ∀ n i j, i ≤ j → j < ff p i n → p j = false
  | 0, i, j, h1, h2 => by simp [ff] at h2; omega
  | n + 1, i, j, h1, h2 => by
    rw [ff] at h2
    by_cases hp : p i
    · rw [if_pos hp] at h2; omega
    · rw [if_neg hp] at h2
      rcases Nat.eq_or_lt_of_le h1 with e | e
      · subst e; simpa using hp
      · exact ff_no p n (i + 1) j e h2
theorem ff_lt (p : Nat → Bool) (n i : Nat) : ff p i n < i + n ↔ ∃ j, i ≤ j ∧ j < i + n ∧ p j = true := by
  constructor
  · intro h
    exact ⟨_, (ff_bounds p n i).1, h, ff_yes p n i h⟩
  · intro ⟨j, h1, h2, h3⟩
    rcases Nat.lt_or_ge (ff p i n) (i + n) with h | h
    · exact h
    · have := ff_no p n i j h1 (by omega)
      rw [this] at h3
      cases h3
theorem ff_cong {p q : Nat → Bool} : ∀ n i, (∀ j, i ≤ j → j < i + n → p j = q j) → ff p i n = ff q i n
  | 0, i, _ => rfl
  | n + 1, i, h => by
    rw [ff, ff, h i (Nat.le_refl _) (by omega), ff_cong n (i + 1) (fun j h1 h2 => h j (by omega) (by omega))]
theorem ff_eq {p : Nat → Bool} {n i j : Nat} (h1 : i ≤ j) (h2 : j < i + n) (hp : p j = true) (hn : ∀ k, i ≤ k → k < j → p k = false) : ff p i n = j := by
  have hlt : ff p i n < i + n := (ff_lt p n i).mpr ⟨j, h1, h2, hp⟩
  have hb := ff_bounds p n i
  rcases Nat.lt_trichotomy (ff p i n) j with h | h | h
  · have := hn _ hb.1 h
    rw [ff_yes p n i hlt] at this
    cases this
  · exact h
  · have := ff_no p n i j h1 h
    rw [hp] at this
    cases this
/-- the found place, or a word for none -/
def fI (none_ : Int32) (p : Nat → Bool) (n : Nat) : Int32 := if ff p 0 n < n then nI (ff p 0 n) else none_
theorem ff_F {p : Nat → Bool} {i n : Nat} (h : p i = false) : ff p i (n + 1) = ff p (i + 1) n := by rw [ff, if_neg (by rw [h]; decide)]
theorem ff_T {p : Nat → Bool} {i n : Nat} (h : p i = true) : ff p i (n + 1) = i := by rw [ff, if_pos h]
theorem vp_lit (k : Nat) {N : Nat} (h : k < N) (hN : N < 2 ^ 31) : vp_in (OfNat.ofNat k) N := vp_in_nI h hN
