/-! The reader of a text, in mathematics. -/
def full (s : St) (K : Nat) : Bool := if K = 4 then decide (10 ≤ s 41) else decide (10 ≤ s 0)
/-- is the number v allowed as the k-th of a statement K whose first number is a -/
def acc (s : St) (K k a v : Nat) : Bool :=
  if K = 0 then (if k = 0 then decide (v < 16) else decide (v < 6)) else
  if K = 1 then (if k = 0 then decide (v < 4) else if k = 1 then decide (v < s 0) else decide (v < 6)) else
  if K = 2 then (if k = 0 then decide (v < 4) else decide (v < 6)) else
  if K = 3 then (if k = 0 then kz s v 0 else decide (v < 6)) else
  (if k = 0 then hz s v else decide (v < s 0) && !decide (ff (fun j => decide (s (42 + 2 * j) = a ∧ s (42 + 2 * j + 1) = v)) 0 (s 41) < s 41))
def nsl (K : Nat) : Nat := if K = 1 then 3 else 2
/-- a new object of kind k with first number a, content b, group d -/
def addO (s : St) (k a b d : Nat) : St := sset (sset (sset (sset (sset s (1 + s 0) k) (11 + s 0) a) (21 + s 0) b) (31 + s 0) d) 0 (s 0 + 1)
def prf (s : St) (K : Nat) (nn : Nat → Nat) : St := if K = 4 then addR s (nn 0) (nn 1) else if K = 1 then addO s 1 (nn 0) (nn 1) (nn 2) else addO s K (nn 0) 0 (nn 1)
def sets (nn : Nat → Nat) (k v : Nat) : Nat → Nat := fun j => if j = k then v else nn j
/-- the numbers of a statement: f of them from the k-th on, the reader at i -/
def slt (L : Nat) (c : Nat → Nat) (s : St) (K : Nat) : Nat → Nat → Nat → (Nat → Nat) → Sum Nat ((Nat → Nat) × Nat)
  | 0, _, i, nn => .inr (nn, i)
  | f + 1, k, i, nn => if mT L c i = 2 ∧ acc s K k (nn 0) (nv c (tF L c i) (tB L c i)) = true then slt L c s K f (k + 1) (tB L c i) (sets nn k (nv c (tF L c i) (tB L c i))) else .inl (tF L c i)
/-- a statement: the error's offset, or the new system and where the reader is then -/
def stm (L : Nat) (c : Nat → Nat) (s : St) (i : Nat) : Sum Nat (St × Nat) :=
  if tT L c i = 1 ∧ kwd c (tF L c i) (tB L c i) ≠ 9 ∧ full s (kwd c (tF L c i) (tB L c i)) = false then
    match slt L c s (kwd c (tF L c i) (tB L c i)) (nsl (kwd c (tF L c i) (tB L c i))) 0 (tB L c i) (fun _ => 0) with
    | .inl e => .inl e
    | .inr (nn, j) => if tT L c j = 3 then .inr (prf s (kwd c (tF L c i) (tB L c i)) nn, tB L c j) else .inl (tF L c j)
  else .inl (tF L c i)
def par (L : Nat) (c : Nat → Nat) : Nat → St → Nat → Sum Nat St
  | 0, s, _ => .inr s
  | f + 1, s, i => if tT L c i = 0 then .inr s else match stm L c s i with
    | .inl e => .inl e
    | .inr (s', j) => par L c f s' j
theorem slt_le {L : Nat} {c : Nat → Nat} {s : St} {K : Nat} : ∀ f k i nn nn' j, i ≤ L → slt L c s K f k i nn = .inr (nn', j) → i ≤ j ∧ j ≤ L
  | 0, k, i, nn, nn', j, hi, h => by
    rw [slt] at h
    injection h with h
    injection h with h1 h2
    omega
  | f + 1, k, i, nn, nn', j, hi, h => by
    rw [slt] at h
    have b1 := tF_le (c := c) hi
    have b2 := tB_le (c := c) hi
    split at h
    · have := slt_le f (k + 1) (tB L c i) _ nn' j b2.2.1 h
      omega
    · cases h
