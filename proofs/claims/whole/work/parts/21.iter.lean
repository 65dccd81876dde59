/-! The rounds: each grows, and they end. -/
theorem rowsK_in {s : St} (hw : WF s) {rem : Nat} : ∀ k, k ≤ s 41 → ∀ a b, (rowsK s rem k a).testBit b = true → a < s 0 ∧ b < s 0
  | 0, _, a, b, h => by rw [rowsK, Nat.zero_testBit] at h; cases h
  | k + 1, hk, a, b, h => by
    rw [rowsK] at h
    split at h
    · exact rowsK_in hw k (by omega) a b h
    · split at h
      · rename_i e
        obtain ⟨r1, r2, r3⟩ := hw.rf (k := k) (by omega)
        rw [Nat.testBit_or, Bool.or_eq_true] at h
        rcases h with h | h
        · exact rowsK_in hw k (by omega) a b h
        · rw [Nat.testBit_two_pow, decide_eq_true_eq] at h
          omega
      · exact rowsK_in hw k (by omega) a b h
theorem ini_in {s : St} (hw : WF s) {rem a b : Nat} (h : ini s rem a b = true) : a < s 0 ∧ b < s 0 := rowsK_in hw _ (Nat.le_refl _) a b h
theorem it_in {s : St} (hw : WF s) {rem : Nat} : ∀ r a b, it s rem r a b = true → a < s 0 ∧ b < s 0
  | 0, a, b, h => ini_in hw h
  | r + 1, a, b, h => by
    rw [it, nxt, Bool.or_eq_true, Bool.and_eq_true, Bool.and_eq_true] at h
    rcases h with h | h
    · exact it_in hw r a b h
    · simp only [decide_eq_true_eq] at h
      exact ⟨h.1, h.2.1⟩
theorem it_out {s : St} (hw : WF s) {rem r a b : Nat} (h : ¬ (a < s 0 ∧ b < s 0)) : it s rem r a b = false := by
  cases e : it s rem r a b with
  | false => rfl
  | true => exact absurd (it_in hw r a b e) h
theorem it_up {s : St} {rem r a b : Nat} (h : it s rem r a b = true) : it s rem (r + 1) a b = true := by rw [it, nxt, h]; rfl
theorem it_le {s : St} {rem a b : Nat} {r t : Nat} (hrt : r ≤ t) (h : it s rem r a b = true) : it s rem t a b = true := by
  obtain ⟨d, rfl⟩ := Nat.le.dest hrt
  induction d with
  | zero => exact h
  | succ d ih => exact it_up (ih (by omega))
theorem it_new {s : St} {rem r a b : Nat} (ha : a < s 0) (hb : b < s 0) (h : it s rem r a b = false) : it s rem (r + 1) a b = der s (it s rem r) a b := by
  rw [it, nxt, h]; simp [ha, hb]
theorem stb_eq {s : St} (hw : WF s) {rem r : Nat} (h : stb s rem r = true) : it s rem (r + 1) = it s rem r := by
  funext a b
  by_cases q : a < s 0 ∧ b < s 0
  · exact (of_decide_eq_true h) a q.1 b q.2
  · rw [it_out hw q, it_out hw q]
theorem stb_all {s : St} (hw : WF s) {rem r : Nat} (h : stb s rem r = true) : ∀ d, it s rem (r + d) = it s rem r
  | 0 => rfl
  | d + 1 => by
    rw [← Nat.add_assoc, it, stb_all hw h d]
    exact stb_eq hw h
/-- how many of the first k places p has -/
def cc (p : Nat → Bool) : Nat → Nat
  | 0 => 0
  | k + 1 => cc p k + (if p k then 1 else 0)
theorem cc_le (p : Nat → Bool) : ∀ k, cc p k ≤ k
  | 0 => Nat.le_refl _
  | k + 1 => by
    have := cc_le p k
    rw [cc]
    split <;> omega
theorem cc_mono {p q : Nat → Bool} (h : ∀ j, p j = true → q j = true) : ∀ k, cc p k ≤ cc q k
  | 0 => Nat.le_refl _
  | k + 1 => by
    have := cc_mono h k
    rw [cc, cc]
    by_cases hp : p k
    · rw [if_pos hp, if_pos (h k hp)]; omega
    · rw [if_neg hp]; split <;> omega
theorem cc_lt {p q : Nat → Bool} (h : ∀ j, p j = true → q j = true) {i : Nat} (hp : p i = false) (hq : q i = true) : ∀ k, i < k → cc p k < cc q k
  | 0, hk => by omega
  | k + 1, hk => by
    rw [cc, cc]
    rcases Nat.lt_or_ge i k with g | g
    · have := cc_lt h hp hq k g
      by_cases hpk : p k
      · rw [if_pos hpk, if_pos (h k hpk)]; omega
      · rw [if_neg hpk]; split <;> omega
    · have e : i = k := by omega
      subst e
      have := cc_mono h i
      rw [hp, hq]
      simp
      omega
/-- the pairs of a relation, counted -/
def crd (E : Rel) : Nat := cc (fun j => E (j / 10) (j % 10)) 100
theorem crd_le (E : Rel) : crd E ≤ 100 := cc_le _ _
theorem crd_lt {E F : Rel} (h : ∀ a b, E a b = true → F a b = true) {a b : Nat} (ha : a < 10) (hb : b < 10) (h1 : E a b = false) (h2 : F a b = true) : crd E < crd F := by
  have e1 : (10 * a + b) / 10 = a := by omega
  have e2 : (10 * a + b) % 10 = b := by omega
  exact cc_lt (fun j hj => h _ _ hj) (i := 10 * a + b) (by rw [e1, e2]; exact h1) (by rw [e1, e2]; exact h2) 100 (by omega)
theorem stb_no {s : St} {rem r : Nat} (h : stb s rem r = false) : ∃ a b, a < s 0 ∧ b < s 0 ∧ it s rem r a b = false ∧ it s rem (r + 1) a b = true := by
  have h1 : ¬ (∀ a, a < s 0 → ∀ b, b < s 0 → it s rem (r + 1) a b = it s rem r a b) := of_decide_eq_false h
  have h2 : ∃ a, a < s 0 ∧ ∃ b, b < s 0 ∧ ¬ it s rem (r + 1) a b = it s rem r a b := by
    apply Classical.byContradiction
    intro q
    apply h1
    intro a ha b hb
    apply Classical.byContradiction
    intro e
    exact q ⟨a, ha, b, hb, e⟩
  obtain ⟨a, ha, b, hb, e⟩ := h2
  cases e0 : it s rem r a b with
  | true => rw [it_up e0, e0] at e; exact absurd rfl e
  | false =>
    cases e1 : it s rem (r + 1) a b with
    | false => rw [e1, e0] at e; exact absurd rfl e
    | true => exact ⟨a, b, ha, hb, e0, e1⟩
theorem crd_grow {s : St} (hw : WF s) {rem r : Nat} (h : stb s rem r = false) : crd (it s rem r) < crd (it s rem (r + 1)) := by
  obtain ⟨a, b, ha, hb, h1, h2⟩ := stb_no h
  have hn := hw.n
  exact crd_lt (fun a b e => it_up e) (by omega) (by omega) h1 h2
theorem LR_le {s : St} (hw : WF s) (rem : Nat) : LR s rem ≤ 100 := by
  rcases Nat.lt_or_ge (LR s rem) 101 with q | q
  · omega
  · have key : ∀ r, r ≤ 101 → r ≤ crd (it s rem r) := by
      intro r
      induction r with
      | zero => intro _; exact Nat.zero_le _
      | succ r ih =>
        intro hr
        have h1 := ff_no (stb s rem) 101 0 r (Nat.zero_le _) (by unfold LR at q; omega)
        have := crd_grow hw h1
        have := ih (by omega)
        omega
    have h1 := key 101 (Nat.le_refl _)
    have h2 := crd_le (it s rem 101)
    omega
theorem LR_stb {s : St} (hw : WF s) (rem : Nat) : stb s rem (LR s rem) = true := ff_yes (stb s rem) 101 0 (by have := LR_le hw rem; unfold LR at this; omega)
theorem LR_no {s : St} {rem r : Nat} (h : r < LR s rem) : stb s rem r = false := ff_no (stb s rem) 101 0 r (Nat.zero_le _) h
theorem LR_eq {s : St} (hw : WF s) {rem r : Nat} (h : stb s rem r = true) (hn : ∀ t, t < r → stb s rem t = false) : LR s rem = r := by
  rcases Nat.lt_trichotomy (LR s rem) r with q | q | q
  · have := hn _ q
    rw [LR_stb hw rem] at this
    cases this
  · exact q
  · have := LR_no q
    rw [h] at this
    cases this
theorem fnd_all {s : St} (hw : WF s) {rem r a b : Nat} (h : it s rem r a b = true) : fnd s rem a b = true := by
  unfold fnd
  rcases Nat.le_total r (LR s rem) with q | q
  · exact it_le q h
  · obtain ⟨d, rfl⟩ := Nat.le.dest q
    rw [stb_all hw (LR_stb hw rem) d] at h
    exact h
theorem fnd_in {s : St} (hw : WF s) {rem a b : Nat} (h : fnd s rem a b = true) : a < s 0 ∧ b < s 0 := it_in hw _ a b h
/-- the first round of a reference among the first r -/
def fr_ (s : St) (rem a b r : Nat) : Int32 := fI (-9) (fun t => it s rem t a b) r
theorem fr_no {s : St} {rem a b r : Nat} (hr : r < 2 ^ 31) : fr_ s rem a b (r + 1) = -9 ↔ it s rem r a b = false := by
  unfold fr_
  by_cases hlt : r + 1 < 2 ^ 31
  · rw [fI_neg hlt (by decide)]
    constructor
    · intro h
      cases e : it s rem r a b with
      | false => rfl
      | true => exact absurd ((ff_lt _ (r + 1) 0).mpr ⟨r, by omega, by omega, e⟩) (by rw [Nat.zero_add]; exact h)
    · intro h q
      have h1 := ff_yes (fun t => it s rem t a b) (r + 1) 0 (by omega)
      have h2 : it s rem r a b = true := it_le (by omega) h1
      rw [h] at h2
      cases h2
  · have : r = 2147483647 := by omega
    subst this
    constructor
    · intro h
      cases e : it s rem 2147483647 a b with
      | false => rfl
      | true =>
        have hq : ff (fun t => it s rem t a b) 0 (2147483647 + 1) < 2147483647 + 1 := by
          have := (ff_lt (fun t => it s rem t a b) (2147483647 + 1) 0).mpr ⟨2147483647, by omega, by omega, e⟩
          rw [Nat.zero_add] at this
          exact this
        rw [fI, if_pos hq] at h
        exact absurd h (nI_ne_neg (by omega) (by decide))
    · intro h
      rw [fI, if_neg]
      intro q
      have h1 := ff_yes (fun t => it s rem t a b) (2147483647 + 1) 0 (by omega)
      have h2 : it s rem 2147483647 a b = true := it_le (by omega) h1
      rw [h] at h2
      cases h2
theorem fr_yes {s : St} {rem a b r : Nat} (h : it s rem r a b = true) : fr_ s rem a b (r + 1) = nI (ff (fun t => it s rem t a b) 0 (r + 1)) ∧ ff (fun t => it s rem t a b) 0 (r + 1) ≤ r := by
  have q : ff (fun t => it s rem t a b) 0 (r + 1) < r + 1 := by
    have := (ff_lt (fun t => it s rem t a b) (r + 1) 0).mpr ⟨r, by omega, by omega, h⟩
    rw [Nat.zero_add] at this
    exact this
  exact ⟨by unfold fr_ fI; rw [if_pos q], by omega⟩
theorem ff_ext {p : Nat → Bool} {n : Nat} (h : ff p 0 n < n) : ff p 0 (n + 1) = ff p 0 n := ff_eq (Nat.zero_le _) (by omega) (ff_yes p n 0 (by omega)) (fun k _ hk => ff_no p n 0 k (Nat.zero_le _) hk)
theorem ff_last {p : Nat → Bool} {n : Nat} (h : ¬ ff p 0 n < n) (hp : p n = true) : ff p 0 (n + 1) = n := ff_eq (Nat.zero_le _) (by omega) hp (fun k _ hk => ff_no p n 0 k (Nat.zero_le _) (by have := (ff_bounds p n 0).2; omega))
theorem ff_stay {p : Nat → Bool} {n : Nat} (h : ¬ ff p 0 n < n) (hp : p n = false) : ¬ ff p 0 (n + 1) < n + 1 := by
  intro q
  have h1 := ff_yes p (n + 1) 0 (by omega)
  rcases Nat.lt_or_ge (ff p 0 (n + 1)) n with g | g
  · have := (ff_lt p n 0).mpr ⟨_, Nat.zero_le _, by omega, h1⟩
    omega
  · have e : ff p 0 (n + 1) = n := by omega
    rw [e, hp] at h1
    cases h1
theorem fr_succ {s : St} {rem a b r : Nat} : fr_ s rem a b (r + 1) = if ff (fun t => it s rem t a b) 0 r < r then fr_ s rem a b r else if it s rem r a b then nI r else -9 := by
  unfold fr_ fI
  by_cases h : ff (fun t => it s rem t a b) 0 r < r
  · rw [if_pos h, if_pos h, ff_ext h, if_pos (by omega)]
  · rw [if_neg h]
    by_cases hp : it s rem r a b
    · rw [if_pos hp, ff_last h hp, if_pos (by omega)]
    · rw [if_neg hp, if_neg (ff_stay h (by simpa using hp))]
