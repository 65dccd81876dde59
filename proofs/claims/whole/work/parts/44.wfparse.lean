/-! What is read is a system. -/
theorem acc_0 {s : St} {K a a' v : Nat} : acc s K 0 a v = acc s K 0 a' v := by
  unfold acc
  rfl
theorem slt_acc {L : Nat} {c : Nat → Nat} {s : St} {K : Nat} : ∀ f k i nn nn' j, slt L c s K f k i nn = .inr (nn', j) → (∀ m, m < k → nn' m = nn m) ∧ ∀ m, k ≤ m → m < k + f → acc s K m (nn' 0) (nn' m) = true
  | 0, k, i, nn, nn', j, h => by
    rw [slt] at h
    injection h with h
    injection h with h1 h2
    subst h1
    exact ⟨fun _ _ => rfl, fun m a b => by omega⟩
  | f + 1, k, i, nn, nn', j, h => by
    rw [slt] at h
    split at h
    · rename_i d
      obtain ⟨y1, y2⟩ := slt_acc f (k + 1) _ _ nn' j h
      have ek : nn' k = nv c (tF L c i) (tB L c i) := by rw [y1 k (by omega)]; unfold sets; rw [if_pos rfl]
      refine ⟨fun m hm => by rw [y1 m (by omega)]; unfold sets; rw [if_neg (by omega)], fun m m1 m2 => ?_⟩
      by_cases e : m = k
      · subst e
        rw [ek]
        by_cases e0 : m = 0
        · subst e0
          rw [acc_0 (a' := nn 0)]
          exact d.2
        · rw [y1 0 (by omega)]
          unfold sets
          rw [if_neg (by omega)]
          exact d.2
      · exact y2 m (by omega) (by omega)
    · cases h
theorem kwd_le (c : Nat → Nat) (f b : Nat) : kwd c f b ≤ 4 ∨ kwd c f b = 9 := by
  unfold kwd
  repeat' split
  all_goals omega
theorem addO_at {s : St} (h : s 0 < 10) {k a b d : Nat} : addO s k a b d 0 = s 0 + 1 ∧ addO s k a b d (1 + s 0) = k ∧ addO s k a b d (11 + s 0) = a ∧ addO s k a b d (21 + s 0) = b ∧ addO s k a b d (31 + s 0) = d := by
  unfold addO sset
  refine ⟨?_, ?_, ?_, ?_, ?_⟩
  · simp
  · rw [if_neg (by omega), if_neg (by omega), if_neg (by omega), if_neg (by omega), if_pos rfl]
  · rw [if_neg (by omega), if_neg (by omega), if_neg (by omega), if_pos rfl]
  · rw [if_neg (by omega), if_neg (by omega), if_pos rfl]
  · rw [if_neg (by omega), if_pos rfl]
theorem addO_ne {s : St} {k a b d j : Nat} (h0 : j ≠ 0) (h1 : j ≠ 1 + s 0) (h2 : j ≠ 11 + s 0) (h3 : j ≠ 21 + s 0) (h4 : j ≠ 31 + s 0) : addO s k a b d j = s j := by
  unfold addO sset
  rw [if_neg h0, if_neg h4, if_neg h3, if_neg h2, if_neg h1]
