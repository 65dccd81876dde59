/-! The reference's rounds. -/
/-- what a round makes of an entry -/
def vN (s : St) (E : Rel) (g : Mem) (r : Nat) (a b : Nat) : Int32 := if g 31 (10 * a + b) = -9 ∧ der s E a b = true then nI r else g 31 (10 * a + b)
/-- the entries ahead of the place (a, b) are new, the others old -/
def Jn (s : St) (E : Rel) (g : Mem) (r a b : Nat) (g' : Mem) : Prop := (∀ k, k ≠ 31 → g' k = g k) ∧ ∀ a' b', a' < s 0 → b' < s 0 → g' 31 (10 * a' + b') = if a' < a ∨ (a' = a ∧ b' < b) then vN s E g r a' b' else g 31 (10 * a' + b')
/-- an entry ahead of (a, b) is new -/
def Fn (s : St) (E : Rel) (g : Mem) (a b : Nat) : Prop := ∃ a' b', a' < s 0 ∧ b' < s 0 ∧ (a' < a ∨ (a' = a ∧ b' < b)) ∧ g 31 (10 * a' + b') = -9 ∧ der s E a' b' = true
theorem Jn_eB {s : St} (hw : WF s) {g g' : Mem} {r a b : Nat} (hr : r < 2 ^ 31) (h : Jn s (eB s g (nI r)) g r a b g') : eB s g' (nI r) = eB s g (nI r) := by
  funext x y
  unfold eB
  by_cases hx : x < s 0
  · by_cases hy : y < s 0
    · have e := h.2 x y hx hy
      rw [e]
      split
      · unfold vN
        split
        · rename_i q
          rw [q.1]
          have h1 : (nI r ≤ nI r) = True := by simp [le_iff32]
          simp [h1]
        · rfl
      · rfl
    · simp [hy]
  · simp [hx]
theorem sg_X7_findRound_0 {Γ : Gam} {P : Int32 → Mem → Prop}  (a1 : Int32) {g : Mem} (h : AW Γ 9 iX7_findRound P 4 [some (.inr 26), some (.inl a1), some (.inl 0), some (.inl 0)] [] g) : AW Γ 9 iX7_findRound P 0 [some (.inr 26), some (.inl a1)] [] g :=
  (aw_iconst 0 dX7_findRound_0 (by decide) (aw_istore_n [some (.inr 26), some (.inl a1), some (.inl 0)] dX7_findRound_1 (by decide) rfl (aw_iconst 0 dX7_findRound_2 (by decide) (aw_istore_n [some (.inr 26), some (.inl a1), some (.inl 0), some (.inl 0)] dX7_findRound_3 (by decide) rfl (aw_mask [true, true, true, true] rfl h)))))
theorem sg_X7_findRound_4 {Γ : Gam} {P : Int32 → Mem → Prop}  (a1 a2 a3 : Int32) {g : Mem} (h : (((g 27 0) ≤ a3 → (bz a2 ∧ P a2 g)) ∧ (¬ ((g 27 0) ≤ a3) → AW Γ 9 iX7_findRound P 17 [some (.inr 26), some (.inl a1), some (.inl a2), some (.inl a3), some (.inl 0)] [] g))) : AW Γ 9 iX7_findRound P 4 [some (.inr 26), some (.inl a1), some (.inl a2), some (.inl a3)] [] g :=
  (aw_iload_n dX7_findRound_4 rfl (aw_aload_n dX7_findRound_5 rfl (aw_getr 27 fkX7_7 fa_26_1 dX7_findRound_6 (aw_iconst 0 dX7_findRound_9 (by decide) (aw_iald aa_27 dX7_findRound_10 (vp_lit 0 (by decide) (by decide)) (aw_icmp_ge 85 dX7_findRound_11 (by decide) (fun c1 => (aw_iload_n dX7_findRound_85 rfl (aw_iret rfl (h.1 c1).1 dX7_findRound_86 (h.1 c1).2))) (fun c1 => (aw_iconst 0 dX7_findRound_14 (by decide) (aw_istore [some (.inr 26), some (.inl a1), some (.inl a2), some (.inl a3), some (.inl 0)] dX7_findRound_15 (by decide) rfl (aw_mask [true, true, true, true, true] rfl (h.2 c1)))))))))))
theorem sg_X7_findRound_17 {Γ : Gam} {P : Int32 → Mem → Prop}  (s : St) (a1 a2 a3 a4 : Int32) {g : Mem} (h : (((g 27 0) ≤ a4 → AW Γ 9 iX7_findRound P 4 [some (.inr 26), some (.inl a1), some (.inl a2), some (.inl (a3 + 1))] [] g) ∧ (¬ ((g 27 0) ≤ a4) → (vp_in ((10 * a3) + a4) 100 ∧ ((¬ (g 31 ((10 * a3) + a4).toNatClampNeg) = (-9) → AW Γ 9 iX7_findRound P 17 [some (.inr 26), some (.inl a1), some (.inl a2), some (.inl a3), some (.inl (a4 + 1))] [] g) ∧ ((g 31 ((10 * a3) + a4).toNatClampNeg) = (-9) → ((MW 27 s g ∧ inR (s 0) a3 = true ∧ inR (s 0) a4 = true) ∧ (((rlI s (eB s g a1) a3.toNatClampNeg a4.toNatClampNeg) = (-9) → AW Γ 9 iX7_findRound P 17 [some (.inr 26), some (.inl a1), some (.inl a2), some (.inl a3), some (.inl (a4 + 1))] [] g) ∧ (¬ (rlI s (eB s g a1) a3.toNatClampNeg a4.toNatClampNeg) = (-9) → (vp_in ((10 * a3) + a4) 100 ∧ AW Γ 9 iX7_findRound P 17 [some (.inr 26), some (.inl a1), some (.inl 1), some (.inl a3), some (.inl (a4 + 1))] [] (up g 31 ((10 * a3) + a4).toNatClampNeg a1))))))))))) : AW Γ 9 iX7_findRound P 17 [some (.inr 26), some (.inl a1), some (.inl a2), some (.inl a3), some (.inl a4)] [] g :=
  (aw_iload dX7_findRound_17 rfl (aw_aload_n dX7_findRound_19 rfl (aw_getr 27 fkX7_7 fa_26_1 dX7_findRound_20 (aw_iconst 0 dX7_findRound_23 (by decide) (aw_iald aa_27 dX7_findRound_24 (vp_lit 0 (by decide) (by decide)) (aw_icmp_ge 79 dX7_findRound_25 (by decide) (fun c1 => (aw_iinc (a3 + 1) [some (.inr 26), some (.inl a1), some (.inl a2), some (.inl (a3 + 1)), some (.inl a4)] dX7_findRound_79 rfl (by rfl) (by decide) rfl (aw_goto 4 dX7_findRound_82 (by decide) (aw_mask [true, true, true, true] rfl (h.1 c1))))) (fun c1 => (aw_aload_n dX7_findRound_28 rfl (aw_getr 31 fkX7_22 fa_26_12 dX7_findRound_29 (aw_bipush 10 dX7_findRound_32 (by decide) (aw_iload_n dX7_findRound_34 rfl (aw_imul dX7_findRound_35 (aw_iload dX7_findRound_36 rfl (aw_iadd dX7_findRound_38 (aw_iald aa_31 dX7_findRound_39 (h.2 c1).1 (aw_bipush (-9) dX7_findRound_40 (by decide) (aw_icmp_ne 73 dX7_findRound_42 (by decide) (fun c2 => (aw_iinc (a4 + 1) [some (.inr 26), some (.inl a1), some (.inl a2), some (.inl a3), some (.inl (a4 + 1))] dX7_findRound_73 rfl (by rfl) (by decide) rfl (aw_goto 17 dX7_findRound_76 (by decide) (aw_mask [true, true, true, true, true] rfl ((h.2 c1).2.1 c2))))) (fun c2 => (aw_aload_n dX7_findRound_45 rfl (aw_iload_n dX7_findRound_46 rfl (aw_iload dX7_findRound_47 rfl (aw_iload_n dX7_findRound_49 rfl (aw_callVi lkX7_160 ckX7_ruleFor ca_26 rfl (d := 8) (by decide) [.inl a3, .inl a4, .inl a1] rfl rfl (Nat.le_of_ble_eq_true rfl) dX7_findRound_50 rfl (Runs.fn (ct_X7_ruleFor ((h.2 c1).2.2 c2).1) (aw_bipush (-9) dX7_findRound_53 (by decide) (aw_icmp_eq 73 dX7_findRound_55 (by decide) (fun c3 => (aw_iinc (a4 + 1) [some (.inr 26), some (.inl a1), some (.inl a2), some (.inl a3), some (.inl (a4 + 1))] dX7_findRound_73 rfl (by rfl) (by decide) rfl (aw_goto 17 dX7_findRound_76 (by decide) (aw_mask [true, true, true, true, true] rfl (((h.2 c1).2.2 c2).2.1 c3))))) (fun c3 => (aw_aload_n dX7_findRound_58 rfl (aw_getr 31 fkX7_22 fa_26_12 dX7_findRound_59 (aw_bipush 10 dX7_findRound_62 (by decide) (aw_iload_n dX7_findRound_64 rfl (aw_imul dX7_findRound_65 (aw_iload dX7_findRound_66 rfl (aw_iadd dX7_findRound_68 (aw_iload_n dX7_findRound_69 rfl (aw_iast aa_31 dX7_findRound_70 (((h.2 c1).2.2 c2).2.2 c3).1 (aw_iconst 1 dX7_findRound_71 (by decide) (aw_istore_n [some (.inr 26), some (.inl a1), some (.inl 1), some (.inl a3), some (.inl a4)] dX7_findRound_72 (by decide) rfl (aw_iinc (a4 + 1) [some (.inr 26), some (.inl a1), some (.inl 1), some (.inl a3), some (.inl (a4 + 1))] dX7_findRound_73 rfl (by rfl) (by decide) rfl (aw_goto 17 dX7_findRound_76 (by decide) (aw_mask [true, true, true, true, true] rfl (((h.2 c1).2.2 c2).2.2 c3).2)))))))))))))))))))))))))))))))))))))))))
theorem lp_X7_find17 {Γ : Gam} {P : Int32 → Mem → Prop} {s : St} {g : Mem} {r : Nat} (h : MW 27 s g) (hr : r < 2 ^ 31) {a : Nat} (ha : a < s 0) (hP : ∀ g' f, Jn s (eB s g (nI r)) g r (a + 1) 0 g' → (f = true ↔ Fn s (eB s g (nI r)) g (a + 1) 0) → AW Γ 9 iX7_findRound P 4 [some (.inr 26), some (.inl (nI r)), some (.inl (bi f)), some (.inl (nI (a + 1)))] [] g') : ∀ n b g' f, b + n = s 0 → Jn s (eB s g (nI r)) g r a b g' → (f = true ↔ Fn s (eB s g (nI r)) g a b) → AW Γ 9 iX7_findRound P 17 [some (.inr 26), some (.inl (nI r)), some (.inl (bi f)), some (.inl (nI a)), some (.inl (nI b))] [] g' := by
  intro n
  have hn := h.2.n
  induction n with
  | zero =>
    intro b g' f hb hJ hf
    have hm : MW 27 s g' := ⟨fun j hj => by rw [hJ.1 27 (by decide)]; exact h.1 j hj, h.2⟩
    refine sg_X7_findRound_17 s _ _ _ _ ?_
    rw [hm.at (show 0 < 81 by decide), nI_1]
    refine ⟨fun _ => hP g' f ⟨hJ.1, fun a' b' h1 h2 => ?_⟩ ?_, fun c => absurd (nI_le (by omega) (by omega)) c⟩
    · rw [hJ.2 a' b' h1 h2]
      by_cases q : a' < a ∨ (a' = a ∧ b' < b)
      · rw [if_pos q, if_pos (by omega)]
      · rw [if_neg q, if_neg (by omega)]
    · rw [hf]
      constructor
      · intro ⟨a', b', h1, h2, h3, h4⟩; exact ⟨a', b', h1, h2, by omega, h4⟩
      · intro ⟨a', b', h1, h2, h3, h4⟩; exact ⟨a', b', h1, h2, by omega, h4⟩
  | succ n ih =>
    intro b g' f hb hJ hf
    have hm : MW 27 s g' := ⟨fun j hj => by rw [hJ.1 27 (by decide)]; exact h.1 j hj, h.2⟩
    have e0 : g' 31 (10 * a + b) = g 31 (10 * a + b) := by rw [hJ.2 a b ha (by omega), if_neg (by omega)]
    refine sg_X7_findRound_17 s _ _ _ _ ?_
    rw [hm.at (show 0 < 81 by decide), nI_1, nI_1, pair_nI', ix_nI (n := a) (by omega), ix_nI (n := b) (by omega), ix_nI (by omega), Jn_eB h.2 hr hJ, e0, inR_nI (by omega), inR_nI (by omega), rlI_neg]
    have old : (¬ (g 31 (10 * a + b) = -9 ∧ der s (eB s g (nI r)) a b = true)) → AW Γ 9 iX7_findRound P 17 [some (.inr 26), some (.inl (nI r)), some (.inl (bi f)), some (.inl (nI a)), some (.inl (nI (b + 1)))] [] g' := by
      intro c
      refine ih (b + 1) g' f (by omega) ⟨hJ.1, fun a' b' h1 h2 => ?_⟩ ?_
      · rw [hJ.2 a' b' h1 h2]
        by_cases q : a' < a ∨ (a' = a ∧ b' < b)
        · rw [if_pos q, if_pos (by omega)]
        · rw [if_neg q]
          by_cases q2 : a' = a ∧ b' = b
          · obtain ⟨rfl, rfl⟩ := q2
            rw [if_pos (by omega), vN, if_neg c]
          · rw [if_neg (by omega)]
      · rw [hf]
        constructor
        · intro ⟨a', b', h1, h2, h3, h4⟩; exact ⟨a', b', h1, h2, by omega, h4⟩
        · intro ⟨a', b', h1, h2, h3, h4⟩
          by_cases q2 : a' = a ∧ b' = b
          · obtain ⟨rfl, rfl⟩ := q2; exact absurd h4 c
          · exact ⟨a', b', h1, h2, by omega, h4⟩
    refine ⟨fun c => absurd c (nI_ge (by omega) (by omega)), fun _ => ⟨vp_nI (by omega) (by decide), fun c => old (fun q => c q.1), fun c => ⟨⟨hm, by simp; omega, by simp; omega⟩, fun c2 => old (fun q => by rw [c2] at q; exact absurd q.2 (by decide)), fun c2 => ⟨vp_nI (by omega) (by decide), ?_⟩⟩⟩⟩
    have c3 : der s (eB s g (nI r)) a b = true := by simpa using c2
    refine ih (b + 1) _ true (by omega) ⟨fun k hk => by rw [up_ne hk, hJ.1 k hk], fun a' b' h1 h2 => ?_⟩ ⟨fun _ => ⟨a, b, ha, by omega, by omega, c, c3⟩, fun _ => rfl⟩
    by_cases q2 : a' = a ∧ b' = b
    · obtain ⟨rfl, rfl⟩ := q2
      rw [up_at, if_pos (by omega), vN, if_pos ⟨c, c3⟩]
    · rw [up_nx (by omega), hJ.2 a' b' h1 h2]
      by_cases q : a' < a ∨ (a' = a ∧ b' < b)
      · rw [if_pos q, if_pos (by omega)]
      · rw [if_neg q, if_neg (by omega)]
theorem lp_X7_find4 {Γ : Gam} {P : Int32 → Mem → Prop} {s : St} {g : Mem} {r : Nat} (h : MW 27 s g) (hr : r < 2 ^ 31) (hP : ∀ g' f, Jn s (eB s g (nI r)) g r (s 0) 0 g' → (f = true ↔ Fn s (eB s g (nI r)) g (s 0) 0) → P (bi f) g') : ∀ n a g' f, a + n = s 0 → Jn s (eB s g (nI r)) g r a 0 g' → (f = true ↔ Fn s (eB s g (nI r)) g a 0) → AW Γ 9 iX7_findRound P 4 [some (.inr 26), some (.inl (nI r)), some (.inl (bi f)), some (.inl (nI a))] [] g' := by
  intro n
  have hn := h.2.n
  induction n with
  | zero =>
    intro a g' f ha hJ hf
    have e : a = s 0 := by omega
    subst e
    refine sg_X7_findRound_4 _ _ _ ?_
    rw [hJ.1 27 (by decide), h.at (show 0 < 81 by decide)]
    exact ⟨fun _ => ⟨bz_bi f, hP g' f hJ hf⟩, fun c => absurd (nI_le (Nat.le_refl _) (by omega)) c⟩
  | succ n ih =>
    intro a g' f ha hJ hf
    refine sg_X7_findRound_4 _ _ _ ?_
    rw [hJ.1 27 (by decide), h.at (show 0 < 81 by decide)]
    exact ⟨fun c => absurd c (nI_ge (by omega) (by omega)), fun _ => lp_X7_find17 h hr (by omega) (fun g2 f2 q1 q2 => ih (a + 1) g2 f2 (by omega) q1 q2) (s 0) 0 g' f (by omega) hJ hf⟩
theorem ct_X7_findRound {Γ : Gam} {s : St} {g : Mem} {r : Nat} (h : MW 27 s g) (hr : r < 2 ^ 31) : Runs Γ 9 yX7_findRound iX7_findRound [.inr 26, .inl (nI r)] g (fun v g' => (∀ k, k ≠ 31 → g' k = g k) ∧ (∀ a b, a < s 0 → b < s 0 → g' 31 (10 * a + b) = vN s (eB s g (nI r)) g r a b) ∧ ∃ f : Bool, v = bi f ∧ (f = true ↔ ∃ a b, a < s 0 ∧ b < s 0 ∧ g 31 (10 * a + b) = -9 ∧ der s (eB s g (nI r)) a b = true)) := by
  refine Runs.intro (by decide) rfl (Nat.le_of_ble_eq_true rfl) (sg_X7_findRound_0 _ (lp_X7_find4 h hr (fun g' f hJ hf => ⟨hJ.1, fun a b ha hb => ?_, f, rfl, ?_⟩) (s 0) 0 g false (by omega) ⟨fun _ _ => rfl, fun a' b' h1 h2 => by rw [if_neg (by omega)]⟩ ⟨fun e => absurd e (by decide), fun ⟨a', b', h1, h2, h3, h4⟩ => by omega⟩))
  · rw [hJ.2 a b ha hb, if_pos (by omega)]
  · rw [hf]
    constructor
    · intro ⟨a', b', h1, h2, h3, h4⟩; exact ⟨a', b', h1, h2, h4⟩
    · intro ⟨a', b', h1, h2, h4⟩; exact ⟨a', b', h1, h2, Or.inl h1, h4⟩
/-- the entries are the first rounds among those ahead of r -/
def Rn (s : St) (rem r : Nat) (g : Mem) : Prop := ∀ a b, a < s 0 → b < s 0 → g 31 (10 * a + b) = fr_ s rem a b r
theorem Rn_eB {s : St} (hw : WF s) {rem r : Nat} {g : Mem} (hr : r + 1 < 2 ^ 31) (h : Rn s rem (r + 1) g) : eB s g (nI (r + 1)) = it s rem r := by
  funext x y
  unfold eB
  by_cases hxy : x < s 0 ∧ y < s 0
  · rw [h x y hxy.1 hxy.2]
    simp only [hxy.1, hxy.2, decide_true, Bool.true_and]
    cases e : it s rem r x y with
    | false =>
      rw [(fr_no (by omega)).mpr e]
      simp
    | true =>
      obtain ⟨h1, h2⟩ := fr_yes e
      rw [h1]
      have h3 : ¬ nI (ff (fun t => it s rem t x y) 0 (r + 1)) = -9 := nI_ne_neg (by omega) (by decide)
      have h4 : ¬ nI (r + 1) ≤ nI (ff (fun t => it s rem t x y) 0 (r + 1)) := by
        rw [nI_leI (by omega) (by omega)]; omega
      simp [h3, h4]
  · rw [it_out hw hxy]
    by_cases hx : x < s 0
    · have hy : ¬ y < s 0 := fun q => hxy ⟨hx, q⟩
      simp [hy]
    · simp [hx]
theorem Rn_step {s : St} (hw : WF s) {rem r : Nat} {g g' : Mem} (hr : r + 1 < 2 ^ 31) (h : Rn s rem (r + 1) g) (h2 : ∀ a b, a < s 0 → b < s 0 → g' 31 (10 * a + b) = vN s (it s rem r) g (r + 1) a b) : Rn s rem (r + 2) g' := by
  intro a b ha hb
  rw [h2 a b ha hb, vN, h a b ha hb, show r + 2 = r + 1 + 1 from rfl, fr_succ (s := s) (rem := rem) (a := a) (b := b) (r := r + 1)]
  by_cases q : ff (fun t => it s rem t a b) 0 (r + 1) < r + 1
  · rw [if_pos q]
    have e : ¬ fr_ s rem a b (r + 1) = -9 := by
      unfold fr_ fI
      rw [if_pos q]
      exact nI_ne_neg (by omega) (by decide)
    rw [if_neg (fun z => e z.1)]
  · rw [if_neg q]
    have e : fr_ s rem a b (r + 1) = -9 := by
      unfold fr_ fI
      rw [if_neg q]
    have e2 := (fr_no (s := s) (rem := rem) (a := a) (b := b) (r := r) (by omega)).mp e
    rw [it_new ha hb e2, e]
    by_cases hd : der s (it s rem r) a b = true
    · rw [if_pos ⟨rfl, hd⟩, if_pos hd]
    · rw [if_neg (fun z => hd z.2), if_neg hd]
theorem Rn_any {s : St} {rem r : Nat} {g : Mem} (hr : r + 1 < 2 ^ 31) (h : Rn s rem (r + 1) g) : (∃ a b, a < s 0 ∧ b < s 0 ∧ g 31 (10 * a + b) = -9 ∧ der s (it s rem r) a b = true) ↔ stb s rem r = false := by
  constructor
  · intro ⟨a, b, ha, hb, h1, h2⟩
    rw [h a b ha hb, fr_no (by omega)] at h1
    apply decide_eq_false
    intro q
    have := q a ha b hb
    rw [it_new ha hb h1, h2, h1] at this
    cases this
  · intro q
    obtain ⟨a, b, ha, hb, h1, h2⟩ := stb_no q
    refine ⟨a, b, ha, hb, by rw [h a b ha hb, fr_no (by omega)]; exact h1, ?_⟩
    rw [it_new ha hb h1] at h2
    exact h2
/-- what an analysis leaves in the reference -/
def AnM (s : St) (rem : Nat) (g : Mem) : Prop := Rn s rem (LR s rem + 1) g ∧ g 26 13 = nI (LR s rem)
def frA (g g' : Mem) : Prop := (∀ k, k ≠ 31 → k ≠ 26 → g' k = g k) ∧ ∀ j, j ≠ 13 → g' 26 j = g 26 j
theorem sg_X7_analyse_0 {Γ : Gam} {P : Int32 → Mem → Prop}  (a1 : Int32) {g : Mem} (h : AW Γ 10 iX7_analyse P 2 [some (.inr 26), some (.inl a1), some (.inl 0)] [] g) : AW Γ 10 iX7_analyse P 0 [some (.inr 26), some (.inl a1)] [] g :=
  (aw_iconst 0 dX7_analyse_0 (by decide) (aw_istore_n [some (.inr 26), some (.inl a1), some (.inl 0)] dX7_analyse_1 (by decide) rfl (aw_mask [true, true, true] rfl h)))
theorem sg_X7_analyse_2 {Γ : Gam} {P : Int32 → Mem → Prop}  (a1 a2 : Int32) {g : Mem} (h : ((100 ≤ a2 → AW Γ 10 iX7_analyse P 24 [some (.inr 26), some (.inl a1), some (.inl 0)] [] g) ∧ (¬ (100 ≤ a2) → (vp_in a2 100 ∧ AW Γ 10 iX7_analyse P 2 [some (.inr 26), some (.inl a1), some (.inl (a2 + 1))] [] (up g 31 a2.toNatClampNeg (-9)))))) : AW Γ 10 iX7_analyse P 2 [some (.inr 26), some (.inl a1), some (.inl a2)] [] g :=
  (aw_iload_n dX7_analyse_2 rfl (aw_bipush 100 dX7_analyse_3 (by decide) (aw_icmp_ge 22 dX7_analyse_5 (by decide) (fun c1 => (aw_iconst 0 dX7_analyse_22 (by decide) (aw_istore_n [some (.inr 26), some (.inl a1), some (.inl 0)] dX7_analyse_23 (by decide) rfl (aw_mask [true, true, true] rfl (h.1 c1))))) (fun c1 => (aw_aload_n dX7_analyse_8 rfl (aw_getr 31 fkX7_22 fa_26_12 dX7_analyse_9 (aw_iload_n dX7_analyse_12 rfl (aw_bipush (-9) dX7_analyse_13 (by decide) (aw_iast aa_31 dX7_analyse_15 (h.2 c1).1 (aw_iinc (a2 + 1) [some (.inr 26), some (.inl a1), some (.inl (a2 + 1))] dX7_analyse_16 rfl (by rfl) (by decide) rfl (aw_goto 2 dX7_analyse_19 (by decide) (aw_mask [true, true, true] rfl (h.2 c1).2))))))))))))
theorem sg_X7_analyse_24 {Γ : Gam} {P : Int32 → Mem → Prop}  (a1 a2 : Int32) {g : Mem} (h : (((g 27 41) ≤ a2 → AW Γ 10 iX7_analyse P 90 [some (.inr 26), none, some (.inl 1)] [] (up g 26 13 0)) ∧ (¬ ((g 27 41) ≤ a2) → ((¬ (bi (hasB a1 a2)) = 0 → AW Γ 10 iX7_analyse P 24 [some (.inr 26), some (.inl a1), some (.inl (a2 + 1))] [] g) ∧ ((bi (hasB a1 a2)) = 0 → (vp_in (42 + (2 * a2)) 81 ∧ (vp_in ((42 + (2 * a2)) + 1) 81 ∧ (vp_in ((10 * (g 27 (42 + (2 * a2)).toNatClampNeg)) + (g 27 ((42 + (2 * a2)) + 1).toNatClampNeg)) 100 ∧ AW Γ 10 iX7_analyse P 24 [some (.inr 26), some (.inl a1), some (.inl (a2 + 1))] [] (up g 31 ((10 * (g 27 (42 + (2 * a2)).toNatClampNeg)) + (g 27 ((42 + (2 * a2)) + 1).toNatClampNeg)).toNatClampNeg 0))))))))) : AW Γ 10 iX7_analyse P 24 [some (.inr 26), some (.inl a1), some (.inl a2)] [] g :=
  (aw_iload_n dX7_analyse_24 rfl (aw_aload_n dX7_analyse_25 rfl (aw_getr 27 fkX7_7 fa_26_1 dX7_analyse_26 (aw_bipush 41 dX7_analyse_29 (by decide) (aw_iald aa_27 dX7_analyse_31 (vp_lit 41 (by decide) (by decide)) (aw_icmp_ge 83 dX7_analyse_32 (by decide) (fun c1 => (aw_aload_n dX7_analyse_83 rfl (aw_iconst 0 dX7_analyse_84 (by decide) (aw_putf fpX7_154 fa_26_13 (vp_nar_int _) rfl dX7_analyse_85 (aw_iconst 1 dX7_analyse_88 (by decide) (aw_istore_n [some (.inr 26), some (.inl a1), some (.inl 1)] dX7_analyse_89 (by decide) rfl (aw_mask [true, false, true] rfl (h.1 c1)))))))) (fun c1 => (aw_iload_n dX7_analyse_35 rfl (aw_iload_n dX7_analyse_36 rfl (aw_callSi lkX7_151 ckX7_has (d := 1) (by decide) [.inl a1, .inl a2] rfl rfl (Nat.le_of_ble_eq_true rfl) dX7_analyse_37 rfl (Runs.fn ct_X7_has (aw_if_ne 77 dX7_analyse_40 (by decide) (fun c2 => (aw_iinc (a2 + 1) [some (.inr 26), some (.inl a1), some (.inl (a2 + 1))] dX7_analyse_77 rfl (by rfl) (by decide) rfl (aw_goto 24 dX7_analyse_80 (by decide) (aw_mask [true, true, true] rfl ((h.2 c1).1 c2))))) (fun c2 => (aw_aload_n dX7_analyse_43 rfl (aw_getr 31 fkX7_22 fa_26_12 dX7_analyse_44 (aw_bipush 10 dX7_analyse_47 (by decide) (aw_aload_n dX7_analyse_49 rfl (aw_getr 27 fkX7_7 fa_26_1 dX7_analyse_50 (aw_bipush 42 dX7_analyse_53 (by decide) (aw_iconst 2 dX7_analyse_55 (by decide) (aw_iload_n dX7_analyse_56 rfl (aw_imul dX7_analyse_57 (aw_iadd dX7_analyse_58 (aw_iald aa_27 dX7_analyse_59 ((h.2 c1).2 c2).1 (aw_imul dX7_analyse_60 (aw_aload_n dX7_analyse_61 rfl (aw_getr 27 fkX7_7 fa_26_1 dX7_analyse_62 (aw_bipush 42 dX7_analyse_65 (by decide) (aw_iconst 2 dX7_analyse_67 (by decide) (aw_iload_n dX7_analyse_68 rfl (aw_imul dX7_analyse_69 (aw_iadd dX7_analyse_70 (aw_iconst 1 dX7_analyse_71 (by decide) (aw_iadd dX7_analyse_72 (aw_iald aa_27 dX7_analyse_73 ((h.2 c1).2 c2).2.1 (aw_iadd dX7_analyse_74 (aw_iconst 0 dX7_analyse_75 (by decide) (aw_iast aa_31 dX7_analyse_76 ((h.2 c1).2 c2).2.2.1 (aw_iinc (a2 + 1) [some (.inr 26), some (.inl a1), some (.inl (a2 + 1))] dX7_analyse_77 rfl (by rfl) (by decide) rfl (aw_goto 24 dX7_analyse_80 (by decide) (aw_mask [true, true, true] rfl ((h.2 c1).2 c2).2.2.2)))))))))))))))))))))))))))))))))))))))))
theorem sg_X7_analyse_90 {Γ : Gam} {P : Int32 → Mem → Prop}  (a2 : Int32) {g : Mem} (h : (Runs Γ 9 yX7_findRound iX7_findRound [.inr 26, .inl a2] g (fun r1 g1 => ((r1 = 0 → P 0 g1) ∧ (¬ r1 = 0 → AW Γ 10 iX7_analyse P 90 [some (.inr 26), none, some (.inl (a2 + 1))] [] (up g1 26 13 a2)))))) : AW Γ 10 iX7_analyse P 90 [some (.inr 26), none, some (.inl a2)] [] g :=
  (aw_aload_n dX7_analyse_90 rfl (aw_iload_n dX7_analyse_91 rfl (aw_callVi lkX7_157 ckX7_findRound ca_26 rfl (d := 9) (by decide) [.inl a2] rfl rfl (Nat.le_of_ble_eq_true rfl) dX7_analyse_92 rfl (Runs.mono h (fun r1 g1 h1_ => (aw_if_eq 109 dX7_analyse_95 (by decide) (fun c1 => (aw_vret rfl dX7_analyse_109 (h1_.1 c1))) (fun c1 => (aw_aload_n dX7_analyse_98 rfl (aw_iload_n dX7_analyse_99 rfl (aw_putf fpX7_154 fa_26_13 (vp_nar_int _) rfl dX7_analyse_100 (aw_iinc (a2 + 1) [some (.inr 26), none, some (.inl (a2 + 1))] dX7_analyse_103 rfl (by rfl) (by decide) rfl (aw_goto 90 dX7_analyse_106 (by decide) (aw_mask [true, false, true] rfl (h1_.2 c1))))))))))))))
theorem lp_X7_an90 {Γ : Gam} {P : Int32 → Mem → Prop} {s : St} {g : Mem} {rem : Nat} (h : MW 27 s g) (hP : ∀ g', frA g g' → AnM s rem g' → P 0 g') : ∀ n r g', r + n = LR s rem → frA g g' → Rn s rem (r + 1) g' → g' 26 13 = nI r → AW Γ 10 iX7_analyse P 90 [some (.inr 26), none, some (.inl (nI (r + 1)))] [] g' := by
  intro n
  have hL := LR_le h.2 rem
  induction n with
  | zero =>
    intro r g' hr hf hR hl
    have e : r = LR s rem := by omega
    subst e
    have hm : MW 27 s g' := ⟨fun j hj => by rw [hf.1 27 (by decide) (by decide)]; exact h.1 j hj, h.2⟩
    refine sg_X7_analyse_90 _ ((ct_X7_findRound hm (by omega)).mono (fun v g1 q => ?_))
    obtain ⟨q1, q2, f, rfl, q3⟩ := q
    rw [Rn_eB h.2 (by omega) hR] at q2 q3
    rw [Rn_any (by omega) hR, LR_stb h.2] at q3
    have ef : f = false := by
      cases f with
      | false => rfl
      | true => exact absurd (q3.mp rfl) (by decide)
    subst ef
    refine ⟨fun _ => hP g1 ⟨fun k k1 k2 => by rw [q1 k k1, hf.1 k k1 k2], fun j hj => by rw [q1 26 (by decide), hf.2 j hj]⟩ ⟨fun a b ha hb => ?_, by rw [q1 26 (by decide)]; exact hl⟩, fun c => absurd rfl c⟩
    have h1 := Rn_step h.2 (by omega) hR q2 a b ha hb
    rw [h1, show LR s rem + 2 = LR s rem + 1 + 1 from rfl, fr_succ (s := s) (rem := rem) (a := a) (b := b) (r := LR s rem + 1)]
    by_cases q : ff (fun t => it s rem t a b) 0 (LR s rem + 1) < LR s rem + 1
    · rw [if_pos q]
    · rw [if_neg q]
      have e : fr_ s rem a b (LR s rem + 1) = -9 := by
        unfold fr_ fI
        rw [if_neg q]
      have e2 := (fr_no (s := s) (rem := rem) (a := a) (b := b) (r := LR s rem) (by omega)).mp e
      rw [stb_eq h.2 (LR_stb h.2 rem), e2, e]
      rfl
  | succ n ih =>
    intro r g' hr hf hR hl
    have hm : MW 27 s g' := ⟨fun j hj => by rw [hf.1 27 (by decide) (by decide)]; exact h.1 j hj, h.2⟩
    refine sg_X7_analyse_90 _ ((ct_X7_findRound hm (by omega)).mono (fun v g1 q => ?_))
    obtain ⟨q1, q2, f, rfl, q3⟩ := q
    rw [Rn_eB h.2 (by omega) hR] at q2 q3
    rw [Rn_any (by omega) hR] at q3
    have ef : f = true := q3.mpr (LR_no (by omega))
    subst ef
    refine ⟨fun c => absurd c (by decide), fun _ => ?_⟩
    rw [nI_1]
    exact ih (r + 1) _ (by omega) ⟨fun k k1 k2 => by rw [up_ne k2, q1 k k1, hf.1 k k1 k2], fun j hj => by rw [up_nx hj, q1 26 (by decide), hf.2 j hj]⟩ (fun a b ha hb => by rw [up_ne (by decide)]; exact Rn_step h.2 (by omega) hR q2 a b ha hb) (up_at _ _ _ _)
theorem fr_1 {s : St} {rem a b : Nat} : fr_ s rem a b (0 + 1) = if ini s rem a b then 0 else -9 := by
  rw [fr_succ, if_neg (Nat.not_lt_zero _)]
  rfl
theorem rowsK_F {s : St} {rem k i : Nat} (h : rem.testBit k = false) : rowsK s rem (k + 1) i = if i = s (42 + 2 * k) then rowsK s rem k i ||| 2 ^ (s (42 + 2 * k + 1)) else rowsK s rem k i := by rw [rowsK, if_neg (by rw [h]; decide)]
theorem rowsK_T {s : St} {rem k i : Nat} (h : rem.testBit k = true) : rowsK s rem (k + 1) i = rowsK s rem k i := by rw [rowsK, if_pos h]
theorem lp_X7_an24 {Γ : Gam} {P : Int32 → Mem → Prop} {s : St} {g : Mem} {rem : Nat} (h : MW 27 s g) (hrem : rem < 2 ^ 31) (hP : ∀ g', (∀ k, k ≠ 31 → g' k = g k) → (∀ a b, a < s 0 → b < s 0 → g' 31 (10 * a + b) = if (rowsK s rem (s 41) a).testBit b then 0 else -9) → AW Γ 10 iX7_analyse P 90 [some (.inr 26), none, some (.inl 1)] [] (up g' 26 13 0)) : ∀ n k g', k + n = s 41 → (∀ k, k ≠ 31 → g' k = g k) → (∀ a b, a < s 0 → b < s 0 → g' 31 (10 * a + b) = if (rowsK s rem k a).testBit b then 0 else -9) → AW Γ 10 iX7_analyse P 24 [some (.inr 26), some (.inl (nI rem)), some (.inl (nI k))] [] g' := by
  intro n
  have hr := h.2.nr
  have hn := h.2.n
  induction n with
  | zero =>
    intro k g' hk e1 e2
    refine sg_X7_analyse_24 _ _ ?_
    rw [e1 27 (by decide), h.at (show 41 < 81 by decide)]
    exact ⟨fun _ => hP g' e1 (by rw [show s 41 = k by omega]; exact e2), fun c => absurd (nI_le (by omega) (by omega)) c⟩
  | succ n ih =>
    intro k g' hk e1 e2
    obtain ⟨r1, r2, r3⟩ := h.2.rf (k := k) (by omega)
    refine sg_X7_analyse_24 _ _ ?_
    rw [e1 27 (by decide), h.at (show 41 < 81 by decide), n42, nI_1, nI_1, ix_nI (n := 42 + 2 * k) (by omega), ix_nI (n := 42 + 2 * k + 1) (by omega), h.at (show 42 + 2 * k < 81 by omega), h.at (show 42 + 2 * k + 1 < 81 by omega), pair_nI', ix_nI (by omega), hasB_nI hrem (by omega)]
    refine ⟨fun c => absurd c (nI_ge (by omega) (by omega)), fun _ => ⟨fun c => ?_, fun c => ?_⟩⟩
    · rw [bi_ne0] at c
      exact ih (k + 1) g' (by omega) e1 (fun a b ha hb => by rw [rowsK_T c]; exact e2 a b ha hb)
    · rw [bi_eq0] at c
      refine ⟨vp_nI (by omega) (by decide), vp_nI (by omega) (by decide), vp_nI (by omega) (by decide), ih (k + 1) _ (by omega) (fun j hj => by rw [up_ne hj, e1 j hj]) (fun a b ha hb => ?_)⟩
      rw [rowsK_F c]
      by_cases q : a = s (42 + 2 * k) ∧ b = s (42 + 2 * k + 1)
      · obtain ⟨rfl, rfl⟩ := q
        rw [up_at, if_pos rfl, Nat.testBit_or, Nat.testBit_two_pow]
        simp
      · rw [up_nx (by omega), e2 a b ha hb]
        by_cases q2 : a = s (42 + 2 * k)
        · rw [if_pos q2, Nat.testBit_or, Nat.testBit_two_pow]
          have : ¬ s (42 + 2 * k + 1) = b := fun e => q ⟨q2, e.symm⟩
          simp [this]
        · rw [if_neg q2]
theorem lp_X7_an2 {Γ : Gam} {P : Int32 → Mem → Prop} {g : Mem} {x : Int32} (hP : ∀ g', (∀ k, k ≠ 31 → g' k = g k) → (∀ j, j < 100 → g' 31 j = -9) → AW Γ 10 iX7_analyse P 24 [some (.inr 26), some (.inl x), some (.inl 0)] [] g') : ∀ n k g', k + n = 100 → (∀ k, k ≠ 31 → g' k = g k) → (∀ j, j < k → g' 31 j = -9) → AW Γ 10 iX7_analyse P 2 [some (.inr 26), some (.inl x), some (.inl (nI k))] [] g' := by
  intro n
  induction n with
  | zero =>
    intro k g' hk e1 e2
    have e : k = 100 := by omega
    subst e
    exact sg_X7_analyse_2 _ _ ⟨fun _ => hP g' e1 e2, fun c => absurd (nI_le (Nat.le_refl 100) (by decide)) c⟩
  | succ n ih =>
    intro k g' hk e1 e2
    refine sg_X7_analyse_2 _ _ ⟨fun c => absurd c (nI_ge (show k < 100 by omega) (by decide)), fun _ => ?_⟩
    rw [nI_1, ix_nI (by omega)]
    refine ⟨vp_nI (by omega) (by decide), ih (k + 1) _ (by omega) (fun j hj => by rw [up_ne hj, e1 j hj]) (fun j hj => ?_)⟩
    rcases Nat.lt_or_ge j k with q | q
    · rw [up_nx (by omega)]; exact e2 j q
    · rw [show j = k by omega, up_at]
theorem ct_X7_analyse {Γ : Gam} {s : St} {g : Mem} {rem : Nat} (h : MW 27 s g) (hrem : rem < 2 ^ 31) : Runs Γ 10 yX7_analyse iX7_analyse [.inr 26, .inl (nI rem)] g (fun _ g' => frA g g' ∧ AnM s rem g') := by
  have hn := h.2.n
  refine Runs.intro (by decide) rfl (Nat.le_of_ble_eq_true rfl) (sg_X7_analyse_0 _ (lp_X7_an2 (g := g) (fun g1 a1 a2 => ?_) 100 0 g rfl (fun _ _ => rfl) (fun j hj => by omega)))
  have hm : MW 27 s g1 := ⟨fun j hj => by rw [a1 27 (by decide)]; exact h.1 j hj, h.2⟩
  refine lp_X7_an24 hm hrem (fun g2 b1 b2 => ?_) (s 41) 0 g1 (by omega) (fun _ _ => rfl) (fun a b ha hb => by rw [a2 _ (by omega), rowsK, Nat.zero_testBit]; rfl)
  refine lp_X7_an90 h (fun g' c1 c2 => ⟨c1, c2⟩) (LR s rem) 0 _ (by omega) ⟨fun k k1 k2 => by rw [up_ne k2, b1 k k1, a1 k k1], fun j hj => by rw [up_nx hj, b1 26 (by decide), a1 26 (by decide)]⟩ (fun a b ha hb => ?_) (up_at _ _ _ _)
  rw [up_ne (by decide), b2 a b ha hb]
  exact fr_1.symm
