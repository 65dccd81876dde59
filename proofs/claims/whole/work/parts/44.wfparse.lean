/-! What is read is a system. -/
theorem acc_0 {s : St} {K a a' v : Nat} : acc s K 0 a v = acc s K 0 a' v := by
  unfold acc
  rfl
theorem slt_acc {L : Nat} {c : Nat → Nat} {s : St} {K : Nat} : ∀ f k i nn nn' j, slt L c s K f k i nn = .inr (nn', j) → (∀ m, m < k → nn' m = nn m) ∧ ∀ m, k ≤ m → m < k + f → acc s K m (nn' 0) (nn' m) = true
  | 0, k, i, nn, nn', j, h => by
    rw [slt] at h
    injection h with h
    injection h with h1 h2
    subst h1
    exact ⟨fun _ _ => rfl, fun m a b => by omega⟩
  | f + 1, k, i, nn, nn', j, h => by
    rw [slt] at h
    split at h
    · rename_i d
      obtain ⟨y1, y2⟩ := slt_acc f (k + 1) _ _ nn' j h
      have ek : nn' k = nv c (tF L c i) (tB L c i) := by rw [y1 k (by omega)]; unfold sets; rw [if_pos rfl]
      refine ⟨fun m hm => by rw [y1 m (by omega)]; unfold sets; rw [if_neg (by omega)], fun m m1 m2 => ?_⟩
      by_cases e : m = k
      · subst e
        rw [ek]
        by_cases e0 : m = 0
        · subst e0
          rw [acc_0 (a' := nn 0)]
          exact d.2
        · rw [y1 0 (by omega)]
          unfold sets
          rw [if_neg (by omega)]
          exact d.2
      · exact y2 m (by omega) (by omega)
    · cases h
theorem kwd_le (c : Nat → Nat) (f b : Nat) : kwd c f b ≤ 4 ∨ kwd c f b = 9 := by
  unfold kwd
  repeat' split
  all_goals omega
theorem addO_at {s : St} (h : s 0 < 10) {k a b d : Nat} : addO s k a b d 0 = s 0 + 1 ∧ addO s k a b d (1 + s 0) = k ∧ addO s k a b d (11 + s 0) = a ∧ addO s k a b d (21 + s 0) = b ∧ addO s k a b d (31 + s 0) = d := by
  unfold addO sset
  refine ⟨?_, ?_, ?_, ?_, ?_⟩
  · simp
  · rw [if_neg (by omega), if_neg (by omega), if_neg (by omega), if_neg (by omega), if_pos rfl]
  · rw [if_neg (by omega), if_neg (by omega), if_neg (by omega), if_pos rfl]
  · rw [if_neg (by omega), if_neg (by omega), if_pos rfl]
  · rw [if_neg (by omega), if_pos rfl]
theorem addO_ne {s : St} {k a b d j : Nat} (h0 : j ≠ 0) (h1 : j ≠ 1 + s 0) (h2 : j ≠ 11 + s 0) (h3 : j ≠ 21 + s 0) (h4 : j ≠ 31 + s 0) : addO s k a b d j = s j := by
  unfold addO sset
  rw [if_neg h0, if_neg h4, if_neg h3, if_neg h2, if_neg h1]
theorem WF.adO {s : St} (hw : WF s) (h : s 0 < 10) {k a b d : Nat} (hk : k ≤ 3) (hd : d ≤ 5) (h0 : k = 0 → a ≤ 15) (h1 : k = 1 → a ≤ 3 ∧ b < s 0) (h2 : k = 2 → a ≤ 3) (h3 : k = 3 → a < s 0 ∧ s (1 + a) = 0) : WF (addO s k a b d) := by
  obtain ⟨a0, a1, a2, a3, a4⟩ := addO_at h (k := k) (a := a) (b := b) (d := d)
  have hr := hw.nr
  have hq := hw.nq
  have e41 : addO s k a b d 41 = s 41 := addO_ne (by omega) (by omega) (by omega) (by omega) (by omega)
  have e62 : addO s k a b d 62 = s 62 := addO_ne (by omega) (by omega) (by omega) (by omega) (by omega)
  have eK : ∀ i, i < s 0 → addO s k a b d (1 + i) = s (1 + i) := fun i hi => addO_ne (by omega) (by omega) (by omega) (by omega) (by omega)
  refine ⟨by omega, fun i hi => ?_, by omega, fun j hj => ?_, by omega, fun j hj => ?_, fun i hi => ?_⟩
  · rw [a0] at hi
    rcases Nat.lt_or_ge i (s 0) with q | q
    · have ho := hw.o q
      unfold OkO at ho ⊢
      rw [a0, eK i q, addO_ne (show 31 + i ≠ 0 by omega) (by omega) (by omega) (by omega) (by omega), addO_ne (show 11 + i ≠ 0 by omega) (by omega) (by omega) (by omega) (by omega), addO_ne (show 21 + i ≠ 0 by omega) (by omega) (by omega) (by omega) (by omega)]
      refine ⟨ho.1, ho.2.1, ho.2.2.1, fun e => ?_, ho.2.2.2.2.1, fun e => ?_⟩
      · have := ho.2.2.2.1 e; omega
      · have := ho.2.2.2.2.2 e
        rw [eK _ this.1]
        exact ⟨by omega, this.2⟩
    · have e : i = s 0 := by omega
      subst e
      unfold OkO
      rw [a0, a1, a2, a3, a4]
      refine ⟨hk, hd, h0, fun e => ?_, h2, fun e => ?_⟩
      · have := h1 e; omega
      · have := h3 e
        rw [eK _ this.1]
        exact ⟨by omega, this.2⟩
  · rw [e41] at hj
    have h4 := hw.rf hj
    rw [a0, addO_ne (show 42 + 2 * j ≠ 0 by omega) (by omega) (by omega) (by omega) (by omega), addO_ne (show 42 + 2 * j + 1 ≠ 0 by omega) (by omega) (by omega) (by omega) (by omega), eK _ h4.1]
    exact ⟨by omega, h4.2.1, by omega⟩
  · rw [e62] at hj
    have h4 := hw.rq hj
    rw [a0, addO_ne (show 63 + 2 * j ≠ 0 by omega) (by omega) (by omega) (by omega) (by omega), addO_ne (show 63 + 2 * j + 1 ≠ 0 by omega) (by omega) (by omega) (by omega) (by omega)]
    omega
  · rw [addO_ne (show 71 + i ≠ 0 by omega) (by omega) (by omega) (by omega) (by omega)]
    exact hw.rn hi
theorem full_F {s : St} {K : Nat} (h : full s K = false) : (K = 4 → s 41 < 10) ∧ (K ≠ 4 → s 0 < 10) := by
  unfold full at h
  constructor
  · intro e
    rw [if_pos e] at h
    have := of_decide_eq_false h
    omega
  · intro e
    rw [if_neg e] at h
    have := of_decide_eq_false h
    omega
theorem WF.pf {s : St} (hw : WF s) {K : Nat} (hK : K ≤ 4) (hf : full s K = false) {nn : Nat → Nat} (ha : ∀ m, m < nsl K → acc s K m (nn 0) (nn m) = true) : WF (prf s K nn) := by
  obtain ⟨f1, f2⟩ := full_F hf
  have hn := hw.n
  unfold nsl at ha
  rcases (show K = 0 ∨ K = 1 ∨ K = 2 ∨ K = 3 ∨ K = 4 by omega) with e | e | e | e | e
  · subst e
    have x0 := ha 0 (by decide)
    have x1 := ha 1 (by decide)
    simp [acc] at x0 x1
    exact hw.adO (f2 (by decide)) (by decide) (by omega) (fun _ => by omega) (fun z => by omega) (fun z => by omega) (fun z => by omega)
  · subst e
    have x0 := ha 0 (by decide)
    have x1 := ha 1 (by decide)
    have x2 := ha 2 (by decide)
    simp [acc] at x0 x1 x2
    exact hw.adO (f2 (by decide)) (by decide) (by omega) (fun _ => by omega) (fun z => ⟨by omega, x1⟩) (fun z => by omega) (fun z => by omega)
  · subst e
    have x0 := ha 0 (by decide)
    have x1 := ha 1 (by decide)
    simp [acc] at x0 x1
    exact hw.adO (f2 (by decide)) (by decide) (by omega) (fun _ => by omega) (fun z => by omega) (fun z => by omega) (fun z => by omega)
  · subst e
    have x0 := ha 0 (by decide)
    have x1 := ha 1 (by decide)
    simp [acc, kz] at x0 x1
    exact hw.adO (f2 (by decide)) (by decide) (by omega) (fun _ => by omega) (fun z => by omega) (fun z => by omega) (fun z => x0)
  · subst e
    have x0 := ha 0 (by decide)
    have x1 := ha 1 (by decide)
    simp only [acc, hz, kz] at x0 x1
    simp at x0 x1
    refine hw.addR (f1 rfl) (h := nn 0) (o := nn 1) ?_ ?_ x1.1
    · rcases x0 with q | q <;> exact q.1
    · rcases x0 with q | q
      · exact Or.inl q.2
      · exact Or.inr q.2
/-- what a statement that is read leaves -/
theorem stm_ok {L : Nat} {c : Nat → Nat} {s : St} {i : Nat} (hi : i ≤ L) (hw : WF s) {s' : St} {j : Nat} (h : stm L c s i = .inr (s', j)) : WF s' ∧ i < j ∧ j ≤ L := by
  have b1 := tF_le (c := c) hi
  have b2 := tB_le (c := c) hi
  unfold stm at h
  split at h
  · rename_i d
    have hlt : tF L c i < L := by
      rcases Nat.lt_or_ge (tF L c i) L with q | q
      · exact q
      · have e := d.1
        unfold tT at e
        rw [if_neg (by omega)] at e
        omega
    have hK : kwd c (tF L c i) (tB L c i) ≤ 4 := by
      rcases kwd_le c (tF L c i) (tB L c i) with q | q
      · exact q
      · exact absurd q d.2.1
    generalize e : slt L c s (kwd c (tF L c i) (tB L c i)) (nsl (kwd c (tF L c i) (tB L c i))) 0 (tB L c i) (fun _ => 0) = X at h
    match X, e, h with
    | .inl x, e, h => cases h
    | .inr (nn, k), e, h =>
      have q1 := slt_le _ _ _ _ _ _ b2.2.1 e
      have q2 := (slt_acc _ _ _ _ _ _ e).2
      have b3 := tF_le (c := c) q1.2
      have b4 := tB_le (c := c) q1.2
      dsimp only at h
      split at h
      · injection h with h
        injection h with h1 h2
        subst h1; subst h2
        exact ⟨hw.pf hK d.2.2 (fun m hm => q2 m (Nat.zero_le _) (by omega)), by omega, b4.2.1⟩
      · cases h
  · cases h
def z0 : St := fun _ => 0
theorem wf_z0 : WF z0 := ⟨Nat.zero_le _, fun i hi => absurd hi (Nat.not_lt_zero _), Nat.zero_le _, fun i hi => absurd hi (Nat.not_lt_zero _), Nat.zero_le _, fun i hi => absurd hi (Nat.not_lt_zero _), fun i hi => by show 0 < 1024; decide⟩
theorem par_wf {L : Nat} {c : Nat → Nat} : ∀ f s i s', WF s → i ≤ L → par L c f s i = .inr s' → WF s'
  | 0, s, i, s', hw, hi, h => by
    rw [par] at h
    injection h with h
    subst h; exact hw
  | f + 1, s, i, s', hw, hi, h => by
    rw [par] at h
    split at h
    · injection h with h
      subst h; exact hw
    · generalize e : stm L c s i = X at h
      match X, e, h with
      | .inl x, e, h => cases h
      | .inr (t, j), e, h =>
        have q := stm_ok hi hw e
        exact par_wf f t j s' q.1 q.2.2 h
def sp_load (a : Ab) : Int32 × Ab := match par a.2.2.1 a.2.2.2 160 z0 0 with
  | .inl e => (-10 - nI e, a)
  | .inr s' => (nI (s' 0), (beg s', push a.2.1 a.1, 0, a.2.2.2))
theorem wa_load {a : Ab} (hw : WA a) : WA (sp_load a).2 := by
  unfold sp_load
  generalize e : par a.2.2.1 a.2.2.2 160 z0 0 = X
  match X, e with
  | .inl x, e => exact hw
  | .inr s', e =>
    have q := hw.psh (WF.beg (par_wf 160 z0 0 s' wf_z0 (Nat.zero_le _) e))
    exact ⟨q.1, q.2.1, q.2.2.1, Nat.zero_le _, fun j hj => absurd hj (Nat.not_lt_zero _)⟩
