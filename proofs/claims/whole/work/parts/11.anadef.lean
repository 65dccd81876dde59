/-! What the analysis is, in numbers. -/
def msk (p : Nat → Bool) : Nat → Nat
  | 0 => 0
  | k + 1 => msk p k ||| (if p k then 2 ^ k else 0)
theorem msk_bit (p : Nat → Bool) : ∀ k j, (msk p k).testBit j = (decide (j < k) && p j)
  | 0, j => by simp [msk]
  | k + 1, j => by
    rw [msk, Nat.testBit_or, msk_bit p k j]
    by_cases hp : p k
    · rw [if_pos hp, Nat.testBit_two_pow]
      by_cases hj : k = j
      · subst hj; simp [hp]
      · by_cases h2 : j < k
        · simp [h2, hj, show j < k + 1 by omega]
        · simp [h2, hj, show ¬ j < k + 1 by omega]
    · rw [if_neg hp, Nat.zero_testBit]
      by_cases hj : j = k
      · subst hj; simp [hp]
      · by_cases h2 : j < k
        · simp [h2, show j < k + 1 by omega]
        · simp [h2, show ¬ j < k + 1 by omega]
theorem lt_of_bits {w k : Nat} (h : ∀ j, k ≤ j → w.testBit j = false) : w < 2 ^ k := by
  apply Nat.lt_pow_two_of_testBit
  intro j hj
  exact h j hj
theorem msk_lt (p : Nat → Bool) (k : Nat) : msk p k < 2 ^ k := lt_of_bits (fun j hj => by rw [msk_bit, decide_eq_false (by omega)]; rfl)
theorem msk_lt' (p : Nat → Bool) {k : Nat} (hk : k ≤ 10) : msk p k < 1024 := Nat.lt_of_lt_of_le (msk_lt p k) (Nat.pow_le_pow_right (by decide) hk)
theorem msk_eq {p : Nat → Bool} {k w : Nat} (h : ∀ j, w.testBit j = (decide (j < k) && p j)) : w = msk p k := Nat.eq_of_testBit_eq (fun j => by rw [h, msk_bit])
theorem msk_cong {p q : Nat → Bool} {k : Nat} (h : ∀ j, j < k → p j = q j) : msk p k = msk q k := by
  apply msk_eq
  intro j
  rw [msk_bit]
  by_cases hj : j < k
  · rw [h j hj]
  · simp [hj]
theorem fa_and' (a b : Nat) : nI a &&& nI b = nI (a &&& b) := by
  apply Int32.toBitVec_inj.mp
  show (nI a).toBitVec &&& (nI b).toBitVec = (nI (a &&& b)).toBitVec
  apply BitVec.eq_of_toNat_eq
  simp only [nI, Int32.ofNat, BitVec.toNat_and]
  simp [Int32.toBitVec, Nat.and_mod_two_pow]
theorem and_lt {a b : Nat} (h : a < 1024) : a &&& b < 1024 := Nat.lt_of_le_of_lt Nat.and_le_left h
theorem or_lt {a b : Nat} (h : a < 1024) (h2 : b < 1024) : a ||| b < 1024 := Nat.or_lt_two_pow (n := 10) h h2
theorem bit_lt {k : Nat} (h : k < 10) : 2 ^ k < 1024 := Nat.pow_lt_pow_of_lt (a := 2) (n := k) (m := 10) (by decide) h
theorem lowB_nI {w : Nat} (h : w < 1024) : lowB (nI w) = fI (-1) (fun k => w.testBit k) 10 := by
  have e : ff (fun k => hasB (nI w) (nI k)) 0 10 = ff (fun k => w.testBit k) 0 10 := ff_cong 10 0 (fun j _ h2 => hasB_nI (by omega) (by omega))
  unfold lowB fI
  rw [e]
theorem ff_mono_n {p : Nat → Bool} {n m : Nat} (hnm : n ≤ m) (h : ∀ j, n ≤ j → p j = false) : (ff p 0 n < n ∧ ff p 0 m = ff p 0 n) ∨ (ff p 0 n = n ∧ ff p 0 m = m) := by
  have b1 := ff_bounds p n 0
  have b2 := ff_bounds p m 0
  rcases Nat.lt_or_ge (ff p 0 n) n with q | q
  · left
    exact ⟨q, ff_eq (Nat.zero_le _) (by omega) (ff_yes p n 0 (by omega)) (fun k _ hk => ff_no p n 0 k (Nat.zero_le _) hk)⟩
  · right
    refine ⟨by omega, ?_⟩
    rcases Nat.lt_or_ge (ff p 0 m) m with q2 | q2
    · have h1 := ff_yes p m 0 (by omega)
      rcases Nat.lt_or_ge (ff p 0 m) n with q3 | q3
      · have h2 := ff_no p n 0 (ff p 0 m) (Nat.zero_le _) (by omega)
        rw [h1] at h2; cases h2
      · rw [h _ q3] at h1; cases h1
    · omega
theorem fI_n {x : Int32} {p : Nat → Bool} {n m : Nat} (hnm : n ≤ m) (h : ∀ j, n ≤ j → p j = false) : fI x p m = fI x p n := by
  unfold fI
  rcases ff_mono_n hnm h with ⟨h1, h2⟩ | ⟨h1, h2⟩
  · rw [h2, if_pos h1, if_pos (by omega)]
  · rw [h1, h2, if_neg (Nat.lt_irrefl _), if_neg (Nat.lt_irrefl _)]
abbrev Rel : Type := Nat → Nat → Bool
/-- object x is an agent with the flag f -/
def dz (s : St) (x f : Nat) : Bool := decide (x < s 0) && (decide (s (1 + x) = 0) && decide (¬ s (11 + x) &&& f = 0))
/-- object x is of kind k -/
def kz (s : St) (x k : Nat) : Bool := decide (x < s 0) && decide (s (1 + x) = k)
def hz (s : St) (x : Nat) : Bool := kz s x 0 || kz s x 3
def q1 (s : St) (E : Rel) (a b x : Nat) : Bool := dz s x 1 && (E x a && (decide (x = b) || E x b))
def q2 (s : St) (E : Rel) (a b y : Nat) : Bool := dz s y 8 && (E a y && E y b)
def qk (s : St) (E : Rel) (a br k : Nat) : Bool := kz s k 2 && (decide (s (11 + k) = br) && E a k)
def q3 (s : St) (E : Rel) (a b k : Nat) : Bool := kz s k 1 && (decide (s (21 + k) = b) && (E a k && decide (ff (qk s E a (s (11 + k))) 0 (s 0) < s 0)))
def q4 (s : St) (E : Rel) (a b k : Nat) : Bool := kz s k 3 && (decide (s (11 + k) = b) && E a k)
def qu (s : St) (E : Rel) (f x : Nat) : Bool := dz s x 2 && E x f
def q5 (s : St) (E : Rel) (a b k : Nat) : Bool := kz s k 3 && (decide (s (11 + k) = a) && (E k b && decide (ff (qu s E k) 0 (s 0) < s 0)))
/-- x is a partner for rule r and the reference from a to b -/
def qq (s : St) (E : Rel) (r a b x : Nat) : Bool := if r = 1 then dz s a 4 && q1 s E a b x else if r = 2 then dz s a 2 && q2 s E a b x else if r = 3 then dz s a 2 && q3 s E a b x else if r = 4 then dz s a 2 && q4 s E a b x else q5 s E a b x
/-- the partner for rule r: the first; s 0 if there is none -/
def pt (s : St) (E : Rel) (r a b : Nat) : Nat := ff (qq s E r a b) 0 (s 0)
/-- the rule: the first of 1 .. 5 that has a partner; 6 if there is none -/
def rl (s : St) (E : Rel) (a b : Nat) : Nat := ff (fun r => decide (pt s E r a b < s 0)) 1 5
def der (s : St) (E : Rel) (a b : Nat) : Bool := decide (rl s E a b < 6)
def nxt (s : St) (E : Rel) : Rel := fun a b => E a b || (decide (a < s 0) && (decide (b < s 0) && der s E a b))
def ini (s : St) (rem : Nat) : Rel := fun a b => (rowsK s rem (s 41) a).testBit b
def it (s : St) (rem : Nat) : Nat → Rel
  | 0 => ini s rem
  | r + 1 => nxt s (it s rem r)
/-- round r + 1 finds nothing -/
def stb (s : St) (rem r : Nat) : Bool := decide (∀ a, a < s 0 → ∀ b, b < s 0 → it s rem (r + 1) a b = it s rem r a b)
/-- the last round that finds anything -/
def LR (s : St) (rem : Nat) : Nat := ff (stb s rem) 0 101
/-- the round of a reference; LR + 1 if it isn't found -/
def rnd (s : St) (rem a b : Nat) : Nat := ff (fun r => it s rem r a b) 0 (LR s rem + 1)
def rdI (s : St) (a b : Nat) : Int32 := fI (-9) (fun r => it s 0 r a b) (LR s 0 + 1)
/-- found: in some round -/
def fnd (s : St) (rem : Nat) : Rel := it s rem (LR s rem)
/-- the relation behind the round of a reference: what was found in earlier rounds -/
def bef (s : St) (a b : Nat) : Rel := it s 0 (rnd s 0 a b - 1)
def ruI (s : St) (a b : Nat) : Int32 := if fnd s 0 a b then (if rnd s 0 a b = 0 then 0 else nI (rl s (bef s a b) a b)) else -9
def paI (s : St) (a b : Nat) : Int32 := if fnd s 0 a b then (if rnd s 0 a b = 0 then -9 else nI (pt s (bef s a b) (rl s (bef s a b) a b) a b)) else -9
/-- the premises, as 10 a + b; 100 for none -/
def pm1 (s : St) (a b : Nat) : Nat :=
  let E := bef s a b
  let r := rl s E a b
  let x := pt s E r a b
  if r = 1 then 10 * x + a else if r = 2 then 10 * a + x else if r = 3 then 10 * a + x else if r = 4 then 10 * a + x else 10 * x + b
def pm2 (s : St) (a b : Nat) : Nat :=
  let E := bef s a b
  let r := rl s E a b
  let x := pt s E r a b
  if r = 1 then (if x = b then 100 else 10 * x + b) else if r = 2 then 10 * x + b else if r = 3 then 10 * a + ff (qk s E a (s (11 + x))) 0 (s 0) else if r = 4 then 100 else 10 * ff (qu s E x) 0 (s 0) + x
/-- closed under the rules 1 to 5; under rule 6 -/
def cl5 (s : St) (E : Rel) : Prop := ∀ a b, a < s 0 → b < s 0 → der s E a b = true → E a b = true
def cl6 (s : St) (E : Rel) : Prop := ∀ x y a b, x < s 0 → y < s 0 → a < s 0 → b < s 0 → E x y = true → hz s a = true → s (31 + a) = s (31 + x) → s (31 + b) = s (31 + y) → E a b = true
/-- the least relation that has the initial references and is closed under rules 1 to 6 (its pairs below the count) -/
def lf6 (s : St) (E : Rel) : Prop := (∀ a b, ini s 0 a b = true → E a b = true) ∧ cl5 s E ∧ cl6 s E ∧ ∀ F : Rel, (∀ a b, ini s 0 a b = true → F a b = true) → cl5 s F → cl6 s F → ∀ a b, a < s 0 → b < s 0 → E a b = true → F a b = true
def RolesOk (s : St) (g : Mem) : Prop := g 6 0 = nI (s 0) ∧ g 6 1 = nI (msk (fun x => dz s x 1) (s 0)) ∧ g 6 2 = nI (msk (fun x => dz s x 2) (s 0)) ∧ g 6 3 = nI (msk (fun x => dz s x 4) (s 0)) ∧ g 6 4 = nI (msk (fun x => dz s x 8) (s 0)) ∧ g 6 5 = nI (msk (fun x => kz s x 3) (s 0)) ∧ g 6 6 = nI (msk (hz s) (s 0)) ∧
  ∀ x, x < s 0 → ((s (1 + x) = 1 → g 7 x = nI (s (21 + x))) ∧ (s (1 + x) = 3 → g 7 x = nI (s (11 + x)))) ∧ g 8 x = nI (msk (fun k => kz s x 1 && (kz s k 2 && decide (s (11 + k) = s (11 + x)))) (s 0)) ∧ g 9 x = nI (msk (fun k => kz s k 1 && decide (s (21 + k) = x)) (s 0)) ∧ g 10 x = nI (msk (fun k => kz s k 3 && decide (s (11 + k) = x)) (s 0)) ∧ g 11 x = nI (msk (fun k => decide (s (31 + k) = s (31 + x))) (s 0))
def AnaOk (s : St) (g : Mem) : Prop := (∀ a, a < s 0 → g 13 a = nI (msk (fnd s 0 a) (s 0))) ∧ (∀ a b, a < s 0 → b < s 0 → g 15 (10 * a + b) = rdI s a b ∧ g 16 (10 * a + b) = ruI s a b ∧ g 17 (10 * a + b) = paI s a b ∧ (fnd s 0 a b = true → rnd s 0 a b ≠ 0 → g 18 (10 * a + b) = nI (pm1 s a b) ∧ (pm2 s a b = 100 → g 19 (10 * a + b) = -1) ∧ (pm2 s a b ≠ 100 → g 19 (10 * a + b) = nI (pm2 s a b)))) ∧ g 12 7 = nI (LR s 0)
def CoaOk (s : St) (g : Mem) : Prop := ∃ E : Rel, lf6 s E ∧ ∀ a, a < s 0 → g 23 a = nI (msk (E a) (s 0))
def AnOk (s : St) (g : Mem) : Prop := RolesOk s g ∧ AnaOk s g ∧ CoaOk s g
/-- the analysis is out of date, or it is that of s -/
def AC (s : St) (g : Mem) : Prop := g 0 8 = 0 ∨ (g 0 8 = 1 ∧ AnOk s g)
theorem AnOk.ext {s : St} {g g' : Mem} (h : AnOk s g) (he : ∀ k, 6 ≤ k → k < 24 → g' k = g k) : AnOk s g' := by
  unfold AnOk RolesOk AnaOk CoaOk at h ⊢
  rw [he 6 (by omega) (by omega), he 7 (by omega) (by omega), he 8 (by omega) (by omega), he 9 (by omega) (by omega), he 10 (by omega) (by omega), he 11 (by omega) (by omega), he 12 (by omega) (by omega), he 13 (by omega) (by omega), he 15 (by omega) (by omega), he 16 (by omega) (by omega), he 17 (by omega) (by omega), he 18 (by omega) (by omega), he 19 (by omega) (by omega), he 23 (by omega) (by omega)]
  exact h
theorem AC.ext {s : St} {g g' : Mem} (h : AC s g) (h0 : g' 0 = g 0) (he : ∀ k, 6 ≤ k → k < 24 → g' k = g k) : AC s g' := by
  unfold AC at h ⊢
  rw [h0]
  exact h.imp id (fun q => ⟨q.1, q.2.ext he⟩)
/-! The whole state: s, the saved states, the text's length and characters. -/
abbrev Ab : Type := St × List St × Nat × (Nat → Nat)
def HC (hs : List St) (g : Mem) : Prop := hs.length ≤ 5 ∧ g 4 2 = nI hs.length ∧ ∃ nx, nx < 5 ∧ g 4 1 = nI nx ∧ ∀ i t, hs[i]? = some t → CS (54 + 10 * ((nx + 5 - hs.length + i) % 5)) t g
def TC (L : Nat) (c : Nat → Nat) (g : Mem) : Prop := g 1 1 = nI L ∧ ∀ j, j < L → g 2 j = nI (c j)
def TM (L : Nat) (c : Nat → Nat) (g : Mem) : Prop := g 26 6 = nI L ∧ ∀ j, j < L → g 30 j = nI (c j)
def WA (a : Ab) : Prop := WF a.1 ∧ (∀ t, t ∈ a.2.1 → WF t) ∧ a.2.1.length ≤ 5 ∧ a.2.2.1 ≤ 160 ∧ ∀ j, j < a.2.2.1 → a.2.2.2 j ≤ 255
def MI (a : Ab) (g : Mem) : Prop := MA 27 a.1 g ∧ HM a.2.1 g ∧ TM a.2.2.1 a.2.2.2 g
def CI (a : Ab) (g : Mem) : Prop := CS 34 a.1 g ∧ HC a.2.1 g ∧ TC a.2.2.1 a.2.2.2 g ∧ AC a.1 g
/-- a call of the class leaves the reference's cells, and the other way round -/
def frC (g g' : Mem) : Prop := ∀ k, 26 ≤ k → k < 34 → g' k = g k
def frM (g g' : Mem) : Prop := ∀ k, (k < 26 ∨ 34 ≤ k) → g' k = g k
theorem HC.ext {hs : List St} {g g' : Mem} (h : HC hs g) (h4 : g' 4 = g 4) (he : ∀ k, 54 ≤ k → g' k = g k) : HC hs g' := by
  obtain ⟨h1, h2, nx, h3, h5, h6⟩ := h
  exact ⟨h1, by rw [h4]; exact h2, nx, h3, by rw [h4]; exact h5, fun i t hi => (h6 i t hi).ext (fun k k1 _ => he k (by omega))⟩
theorem CI.ext {a : Ab} {g g' : Mem} (h : CI a g) (he : frM g g') : CI a g' := by
  obtain ⟨h1, h2, h3, h4⟩ := h
  refine ⟨h1.ext (fun k k1 k2 => he k (by omega)), h2.ext (he 4 (by omega)) (fun k hk => he k (by omega)), ?_, h4.ext (he 0 (by omega)) (fun k k1 k2 => he k (by omega))⟩
  unfold TC at h3 ⊢
  rw [he 1 (by omega), he 2 (by omega)]
  exact h3
theorem MI.ext {a : Ab} {g g' : Mem} (h : MI a g) (he : frC g g') : MI a g' := by
  unfold MI MA HM TM at h ⊢
  rw [he 26 (by omega) (by omega), he 27 (by omega) (by omega), he 29 (by omega) (by omega), he 30 (by omega) (by omega)]
  exact h
