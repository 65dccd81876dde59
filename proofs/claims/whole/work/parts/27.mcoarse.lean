/-! merge, and the coarse answer of the reference. -/
def Mm (s : St) (g : Mem) (x y : Nat) (f : Bool) (g' : Mem) : Prop := Gw s g g' ∧ (f = false → ∀ a b, Fr s g' a b = true → Fr s g a b = true) ∧ (f = true → ∃ a b, Fr s g a b = false ∧ Fr s g' a b = true) ∧
  (f = false → ∀ x' y', x' < s 0 → y' < s 0 → (x' < x ∨ (x' = x ∧ y' < y)) → Fr s g x' y' = true → ∀ a b, a < s 0 → b < s 0 → s (31 + a) = s (31 + x') → s (31 + b) = s (31 + y') → hz s a = true → Fr s g a b = true) ∧ (∀ G : Rel, cl6 s G → (∀ a b, Fr s g a b = true → G a b = true) → ∀ a b, Fr s g' a b = true → G a b = true)
theorem Mm_step {s : St} {g g' g2 : Mem} {x y : Nat} {f f2 : Bool} (h : Mm s g x y f g') (hx : x < s 0) (hy : y < s 0) (hc : Fr s g' x y = true) (h2 : Mg s g' (s (31 + x)) (s (31 + y)) (s 0) 0 f2 g2) : Mm s g x (y + 1) (f || f2) g2 := by
  obtain ⟨h1, h3, h4, h5, h6⟩ := h
  obtain ⟨k1, k3, k4, k5, k6⟩ := h2
  refine ⟨h1.trans k1, fun e a b hf => ?_, fun e => ?_, fun e x' y' hx' hy' hp hF a b ha hb e1 e2 e3 => ?_, fun G hG hs a b hf => ?_⟩
  · rw [Bool.or_eq_false_iff] at e
    exact h3 e.1 a b (k3 e.2 a b hf)
  · rw [Bool.or_eq_true] at e
    rcases e with e | e
    · obtain ⟨a, b, c1, c2⟩ := h4 e
      exact ⟨a, b, c1, k1.sub c2⟩
    · obtain ⟨a, b, c1, c2⟩ := k4 e
      refine ⟨a, b, ?_, c2⟩
      cases e0 : Fr s g a b with
      | false => rfl
      | true => rw [h1.sub e0] at c1; cases c1
  · rw [Bool.or_eq_false_iff] at e
    by_cases q : x' = x ∧ y' = y
    · obtain ⟨rfl, rfl⟩ := q
      exact h3 e.1 a b (k3 e.2 a b (k5 a b ha hb (Or.inl ha) e1 e2 e3))
    · exact h5 e.1 x' y' hx' hy' (by omega) hF a b ha hb e1 e2 e3
  · rcases k6 a b hf with q | ⟨q1, q2, q3⟩
    · exact h6 G hG hs a b q
    · obtain ⟨ha, hb, -⟩ := Fr_t.mp hf
      exact hG x y a b hx hy ha hb (h6 G hG hs x y hc) q3 q1 q2
theorem Mm_skip {s : St} {g g' : Mem} {x y : Nat} {f : Bool} (h : Mm s g x y f g') (hc : Fr s g' x y = false) : Mm s g x (y + 1) f g' := by
  obtain ⟨h1, h3, h4, h5, h6⟩ := h
  refine ⟨h1, h3, h4, fun e x' y' hx' hy' hp hF => ?_, h6⟩
  by_cases q : x' = x ∧ y' = y
  · obtain ⟨rfl, rfl⟩ := q
    rw [h1.sub hF] at hc; cases hc
  · exact h5 e x' y' hx' hy' (by omega) hF
theorem sg_X7_merge_0 {Γ : Gam} {P : Int32 → Mem → Prop}  {g : Mem} (h : AW Γ 4 iX7_merge P 4 [some (.inr 26), some (.inl 0), some (.inl 0)] [] g) : AW Γ 4 iX7_merge P 0 [some (.inr 26)] [] g :=
  (aw_iconst 0 dX7_merge_0 (by decide) (aw_istore_n [some (.inr 26), some (.inl 0)] dX7_merge_1 (by decide) rfl (aw_iconst 0 dX7_merge_2 (by decide) (aw_istore_n [some (.inr 26), some (.inl 0), some (.inl 0)] dX7_merge_3 (by decide) rfl (aw_mask [true, true, true] rfl h)))))
theorem sg_X7_merge_4 {Γ : Gam} {P : Int32 → Mem → Prop}  (a1 a2 : Int32) {g : Mem} (h : (((g 27 0) ≤ a2 → (bz a1 ∧ P a1 g)) ∧ (¬ ((g 27 0) ≤ a2) → AW Γ 4 iX7_merge P 16 [some (.inr 26), some (.inl a1), some (.inl a2), some (.inl 0)] [] g))) : AW Γ 4 iX7_merge P 4 [some (.inr 26), some (.inl a1), some (.inl a2)] [] g :=
  (aw_iload_n dX7_merge_4 rfl (aw_aload_n dX7_merge_5 rfl (aw_getr 27 fkX7_7 fa_26_1 dX7_merge_6 (aw_iconst 0 dX7_merge_9 (by decide) (aw_iald aa_27 dX7_merge_10 (vp_lit 0 (by decide) (by decide)) (aw_icmp_ge 93 dX7_merge_11 (by decide) (fun c1 => (aw_iload_n dX7_merge_93 rfl (aw_iret rfl (h.1 c1).1 dX7_merge_94 (h.1 c1).2))) (fun c1 => (aw_iconst 0 dX7_merge_14 (by decide) (aw_istore_n [some (.inr 26), some (.inl a1), some (.inl a2), some (.inl 0)] dX7_merge_15 (by decide) rfl (aw_mask [true, true, true, true] rfl (h.2 c1)))))))))))
theorem sg_X7_merge_16 {Γ : Gam} {P : Int32 → Mem → Prop}  (a1 a2 a3 : Int32) {g : Mem} (h : (((g 27 0) ≤ a3 → AW Γ 4 iX7_merge P 4 [some (.inr 26), some (.inl a1), some (.inl (a2 + 1))] [] g) ∧ (¬ ((g 27 0) ≤ a3) → (vp_in ((10 * a2) + a3) 100 ∧ (((g 31 ((10 * a2) + a3).toNatClampNeg) = (-9) → AW Γ 4 iX7_merge P 16 [some (.inr 26), some (.inl a1), some (.inl a2), some (.inl (a3 + 1))] [] g) ∧ (¬ (g 31 ((10 * a2) + a3).toNatClampNeg) = (-9) → (vp_in (31 + a2) 81 ∧ (vp_in (31 + a3) 81 ∧ (Runs Γ 3 yX7_mergeGroups iX7_mergeGroups [.inr 26, .inl (g 27 (31 + a2).toNatClampNeg), .inl (g 27 (31 + a3).toNatClampNeg)] g (fun r1 g1 => ((¬ a1 = 0 → AW Γ 4 iX7_merge P 16 [some (.inr 26), some (.inl 1), some (.inl a2), some (.inl (a3 + 1))] [] g1) ∧ (a1 = 0 → ((r1 = 0 → AW Γ 4 iX7_merge P 16 [some (.inr 26), some (.inl 0), some (.inl a2), some (.inl (a3 + 1))] [] g1) ∧ (¬ r1 = 0 → AW Γ 4 iX7_merge P 16 [some (.inr 26), some (.inl 1), some (.inl a2), some (.inl (a3 + 1))] [] g1)))))))))))))) : AW Γ 4 iX7_merge P 16 [some (.inr 26), some (.inl a1), some (.inl a2), some (.inl a3)] [] g :=
  (aw_iload_n dX7_merge_16 rfl (aw_aload_n dX7_merge_17 rfl (aw_getr 27 fkX7_7 fa_26_1 dX7_merge_18 (aw_iconst 0 dX7_merge_21 (by decide) (aw_iald aa_27 dX7_merge_22 (vp_lit 0 (by decide) (by decide)) (aw_icmp_ge 87 dX7_merge_23 (by decide) (fun c1 => (aw_iinc (a2 + 1) [some (.inr 26), some (.inl a1), some (.inl (a2 + 1)), some (.inl a3)] dX7_merge_87 rfl (by rfl) (by decide) rfl (aw_goto 4 dX7_merge_90 (by decide) (aw_mask [true, true, true] rfl (h.1 c1))))) (fun c1 => (aw_aload_n dX7_merge_26 rfl (aw_getr 31 fkX7_22 fa_26_12 dX7_merge_27 (aw_bipush 10 dX7_merge_30 (by decide) (aw_iload_n dX7_merge_32 rfl (aw_imul dX7_merge_33 (aw_iload_n dX7_merge_34 rfl (aw_iadd dX7_merge_35 (aw_iald aa_31 dX7_merge_36 (h.2 c1).1 (aw_bipush (-9) dX7_merge_37 (by decide) (aw_icmp_eq 81 dX7_merge_39 (by decide) (fun c2 => (aw_iinc (a3 + 1) [some (.inr 26), some (.inl a1), some (.inl a2), some (.inl (a3 + 1))] dX7_merge_81 rfl (by rfl) (by decide) rfl (aw_goto 16 dX7_merge_84 (by decide) (aw_mask [true, true, true, true] rfl ((h.2 c1).2.1 c2))))) (fun c2 => (aw_aload_n dX7_merge_42 rfl (aw_aload_n dX7_merge_43 rfl (aw_getr 27 fkX7_7 fa_26_1 dX7_merge_44 (aw_bipush 31 dX7_merge_47 (by decide) (aw_iload_n dX7_merge_49 rfl (aw_iadd dX7_merge_50 (aw_iald aa_27 dX7_merge_51 ((h.2 c1).2.2 c2).1 (aw_aload_n dX7_merge_52 rfl (aw_getr 27 fkX7_7 fa_26_1 dX7_merge_53 (aw_bipush 31 dX7_merge_56 (by decide) (aw_iload_n dX7_merge_58 rfl (aw_iadd dX7_merge_59 (aw_iald aa_27 dX7_merge_60 ((h.2 c1).2.2 c2).2.1 (aw_callVi lkX7_182 ckX7_mergeGroups ca_26 rfl (d := 3) (by decide) [.inl (g 27 (31 + a2).toNatClampNeg), .inl (g 27 (31 + a3).toNatClampNeg)] rfl rfl (Nat.le_of_ble_eq_true rfl) dX7_merge_61 rfl (Runs.mono ((h.2 c1).2.2 c2).2.2 (fun r1 g1 h1_ => (aw_istore [some (.inr 26), some (.inl a1), some (.inl a2), some (.inl a3), some (.inl r1)] dX7_merge_64 (by decide) rfl (aw_iload_n dX7_merge_66 rfl (aw_if_ne 75 dX7_merge_67 (by decide) (fun c3 => (aw_iconst 1 dX7_merge_75 (by decide) (aw_goto 80 dX7_merge_76 (by decide) (aw_istore_n [some (.inr 26), some (.inl 1), some (.inl a2), some (.inl a3), some (.inl r1)] dX7_merge_80 (by decide) rfl (aw_iinc (a3 + 1) [some (.inr 26), some (.inl 1), some (.inl a2), some (.inl (a3 + 1)), some (.inl r1)] dX7_merge_81 rfl (by rfl) (by decide) rfl (aw_goto 16 dX7_merge_84 (by decide) (aw_mask [true, true, true, true] rfl (h1_.1 c3)))))))) (fun c3 => (aw_iload dX7_merge_70 rfl (aw_if_eq 79 dX7_merge_72 (by decide) (fun c4 => (aw_iconst 0 dX7_merge_79 (by decide) (aw_istore_n [some (.inr 26), some (.inl 0), some (.inl a2), some (.inl a3), some (.inl r1)] dX7_merge_80 (by decide) rfl (aw_iinc (a3 + 1) [some (.inr 26), some (.inl 0), some (.inl a2), some (.inl (a3 + 1)), some (.inl r1)] dX7_merge_81 rfl (by rfl) (by decide) rfl (aw_goto 16 dX7_merge_84 (by decide) (aw_mask [true, true, true, true] rfl ((h1_.2 c3).1 c4))))))) (fun c4 => (aw_iconst 1 dX7_merge_75 (by decide) (aw_goto 80 dX7_merge_76 (by decide) (aw_istore_n [some (.inr 26), some (.inl 1), some (.inl a2), some (.inl a3), some (.inl r1)] dX7_merge_80 (by decide) rfl (aw_iinc (a3 + 1) [some (.inr 26), some (.inl 1), some (.inl a2), some (.inl (a3 + 1)), some (.inl r1)] dX7_merge_81 rfl (by rfl) (by decide) rfl (aw_goto 16 dX7_merge_84 (by decide) (aw_mask [true, true, true, true] rfl ((h1_.2 c3).2 c4))))))))))))))))))))))))))))))))))))))))))))))))
theorem lp_X7_mm16 {Γ : Gam} {P : Int32 → Mem → Prop} {s : St} {g : Mem} (h : MW 27 s g) {x : Nat} (hx : x < s 0) (hP : ∀ g' f, Mm s g (x + 1) 0 f g' → AW Γ 4 iX7_merge P 4 [some (.inr 26), some (.inl (bi f)), some (.inl (nI (x + 1)))] [] g') : ∀ n y g' f, y + n = s 0 → Mm s g x y f g' → AW Γ 4 iX7_merge P 16 [some (.inr 26), some (.inl (bi f)), some (.inl (nI x)), some (.inl (nI y))] [] g' := by
  intro n
  have hn := h.2.n
  induction n with
  | zero =>
    intro y g' f hy hJ
    refine sg_X7_merge_16 _ _ _ ?_
    rw [hJ.1.1 27 (by decide), h.at (show 0 < 81 by decide), nI_1]
    exact ⟨fun _ => hP g' f ⟨hJ.1, hJ.2.1, hJ.2.2.1, fun e x' y' hx' hy' hp => hJ.2.2.2.1 e x' y' hx' hy' (by omega), hJ.2.2.2.2⟩, fun c => absurd (nI_le (by omega) (by omega)) c⟩
  | succ n ih =>
    intro y g' f hy hJ
    have hm : MW 27 s g' := ⟨fun j hj => by rw [hJ.1.1 27 (by decide)]; exact h.1 j hj, h.2⟩
    have ga := (h.2.o hx).2.1
    have gb := (h.2.o (i := y) (by omega)).2.1
    refine sg_X7_merge_16 _ _ _ ?_
    rw [hm.at (show 0 < 81 by decide), n31, n31, pair_nI', nI_1, nI_1, ix_nI (n := 31 + x) (by omega), ix_nI (n := 31 + y) (by omega), ix_nI (n := 10 * x + y) (by omega), hm.at (show 31 + x < 81 by omega), hm.at (show 31 + y < 81 by omega)]
    refine ⟨fun c => absurd c (nI_ge (by omega) (by omega)), fun _ => ⟨vp_nI (by omega) (by decide), fun c => ih (y + 1) g' f (by omega) (Mm_skip hJ ((Fr_iff hx (by omega)).mpr c)), fun c => ⟨vp_nI (by omega) (by decide), vp_nI (by omega) (by decide), ?_⟩⟩⟩
    refine (ct_X7_mergeGroups hm (by omega) (by omega)).mono (fun v g2 q => ?_)
    obtain ⟨f2, rfl, q⟩ := q
    have nx := ih (y + 1) g2 (f || f2) (by omega) (Mm_step hJ hx (by omega) (Fr_t.mpr ⟨hx, by omega, c⟩) q)
    refine ⟨fun c1 => ?_, fun c1 => ⟨fun c2 => ?_, fun c2 => ?_⟩⟩
    · rw [bi_ne0] at c1; subst c1; exact nx
    · rw [bi_eq0] at c1 c2; subst c1; subst c2; exact nx
    · rw [bi_eq0] at c1; rw [bi_ne0] at c2; subst c1; subst c2; exact nx
theorem lp_X7_mm4 {Γ : Gam} {P : Int32 → Mem → Prop} {s : St} {g : Mem} (h : MW 27 s g) (hP : ∀ g' f, Mm s g (s 0) 0 f g' → P (bi f) g') : ∀ n x g' f, x + n = s 0 → Mm s g x 0 f g' → AW Γ 4 iX7_merge P 4 [some (.inr 26), some (.inl (bi f)), some (.inl (nI x))] [] g' := by
  intro n
  have hn := h.2.n
  induction n with
  | zero =>
    intro x g' f hx hJ
    have e : x = s 0 := by omega
    subst e
    refine sg_X7_merge_4 _ _ ?_
    rw [hJ.1.1 27 (by decide), h.at (show 0 < 81 by decide)]
    exact ⟨fun _ => ⟨bz_bi f, hP g' f hJ⟩, fun c => absurd (nI_le (Nat.le_refl _) (by omega)) c⟩
  | succ n ih =>
    intro x g' f hx hJ
    refine sg_X7_merge_4 _ _ ?_
    rw [hJ.1.1 27 (by decide), h.at (show 0 < 81 by decide)]
    exact ⟨fun c => absurd c (nI_ge (by omega) (by omega)), fun _ => lp_X7_mm16 h (by omega) (fun g2 f2 q => ih (x + 1) g2 f2 (by omega) q) (s 0) 0 g' f (by omega) hJ⟩
theorem ct_X7_merge {Γ : Gam} {s : St} {g : Mem} (h : MW 27 s g) : Runs Γ 4 yX7_merge iX7_merge [.inr 26] g (fun v g' => ∃ f, v = bi f ∧ Mm s g (s 0) 0 f g') :=
  Runs.intro (by decide) rfl (Nat.le_of_ble_eq_true rfl) (sg_X7_merge_0 (lp_X7_mm4 h (fun g' f q => ⟨f, rfl, q⟩) (s 0) 0 g false (by omega) ⟨Gw.rf, fun _ _ _ e => e, fun e => Bool.noConfusion e, fun _ x' y' _ _ hp => by omega, fun _ _ hs a b e => hs a b e⟩))
theorem sg_X7_coarselyMayHold_0 {Γ : Gam} {P : Int32 → Mem → Prop}  (s : St) (a1 a2 : Int32) {g : Mem} (h : (MW 27 s (up g 26 0 0) ∧ ((¬ (bi (inR (s 0) a1 && inR (s 0) a2)) = 0 → (Runs Γ 10 yX7_analyse iX7_analyse [.inr 26, .inl 0] (up g 26 0 0) (fun r1 g1 => AW Γ 11 iX7_coarselyMayHold P 23 [some (.inr 26), some (.inl a1), some (.inl a2), some (.inl 1)] [] g1))) ∧ ((bi (inR (s 0) a1 && inR (s 0) a2)) = 0 → P (-1) (up g 26 0 0))))) : AW Γ 11 iX7_coarselyMayHold P 0 [some (.inr 26), some (.inl a1), some (.inl a2)] [] g :=
  (aw_aload_n dX7_coarselyMayHold_0 rfl (aw_iconst 0 dX7_coarselyMayHold_1 (by decide) (aw_putf fpX7_32 fa_26_0 (vp_nar_int _) rfl dX7_coarselyMayHold_2 (aw_aload_n dX7_coarselyMayHold_5 rfl (aw_iload_n dX7_coarselyMayHold_6 rfl (aw_iload_n dX7_coarselyMayHold_7 rfl (aw_callVi lkX7_166 ckX7_areObjects ca_26 rfl (d := 3) (by decide) [.inl a1, .inl a2] rfl rfl (Nat.le_of_ble_eq_true rfl) dX7_coarselyMayHold_8 rfl (Runs.fn (ct_X7_areObjects h.1) (aw_if_ne 16 dX7_coarselyMayHold_11 (by decide) (fun c1 => (aw_aload_n dX7_coarselyMayHold_16 rfl (aw_iconst 0 dX7_coarselyMayHold_17 (by decide) (aw_callVv lkX7_163 ckX7_analyse ca_26 rfl (d := 10) (by decide) [.inl 0] rfl rfl (Nat.le_of_ble_eq_true rfl) dX7_coarselyMayHold_18 rfl (Runs.mono (h.2.1 c1) (fun r1 g1 h1_ => (aw_iconst 1 dX7_coarselyMayHold_21 (by decide) (aw_istore_n [some (.inr 26), some (.inl a1), some (.inl a2), some (.inl 1)] dX7_coarselyMayHold_22 (by decide) rfl (aw_mask [true, true, true, true] rfl h1_))))))))) (fun c1 => (aw_iconst (-1) dX7_coarselyMayHold_14 (by decide) (aw_iret rfl (vp_nar_int _) dX7_coarselyMayHold_15 (h.2.2 c1)))))))))))))
theorem sg_X7_coarselyMayHold_23 {Γ : Gam} {P : Int32 → Mem → Prop}  (a1 a2 a3 : Int32) {g : Mem} (h : ((a3 = 0 → (vp_in ((10 * a1) + a2) 100 ∧ ((¬ (g 31 ((10 * a1) + a2).toNatClampNeg) = (-9) → P 1 g) ∧ ((g 31 ((10 * a1) + a2).toNatClampNeg) = (-9) → P 0 g)))) ∧ (¬ a3 = 0 → (Runs Γ 4 yX7_merge iX7_merge [.inr 26] g (fun r1 g1 => AW Γ 11 iX7_coarselyMayHold P 36 [some (.inr 26), some (.inl a1), some (.inl a2), none, some (.inl r1), some (.inl 0)] [] g1))))) : AW Γ 11 iX7_coarselyMayHold P 23 [some (.inr 26), some (.inl a1), some (.inl a2), some (.inl a3)] [] g :=
  (aw_iload_n dX7_coarselyMayHold_23 rfl (aw_if_eq 100 dX7_coarselyMayHold_24 (by decide) (fun c1 => (aw_aload_n dX7_coarselyMayHold_100 rfl (aw_getr 31 fkX7_22 fa_26_12 dX7_coarselyMayHold_101 (aw_bipush 10 dX7_coarselyMayHold_104 (by decide) (aw_iload_n dX7_coarselyMayHold_106 rfl (aw_imul dX7_coarselyMayHold_107 (aw_iload_n dX7_coarselyMayHold_108 rfl (aw_iadd dX7_coarselyMayHold_109 (aw_iald aa_31 dX7_coarselyMayHold_110 (h.1 c1).1 (aw_bipush (-9) dX7_coarselyMayHold_111 (by decide) (aw_icmp_ne 120 dX7_coarselyMayHold_113 (by decide) (fun c2 => (aw_iconst 1 dX7_coarselyMayHold_120 (by decide) (aw_iret rfl (vp_nar_int _) dX7_coarselyMayHold_121 ((h.1 c1).2.1 c2)))) (fun c2 => (aw_iconst 0 dX7_coarselyMayHold_116 (by decide) (aw_goto 121 dX7_coarselyMayHold_117 (by decide) (aw_iret rfl (vp_nar_int _) dX7_coarselyMayHold_121 ((h.1 c1).2.2 c2)))))))))))))))) (fun c1 => (aw_aload_n dX7_coarselyMayHold_27 rfl (aw_callVi lkX7_185 ckX7_merge ca_26 rfl (d := 4) (by decide) [] rfl rfl (Nat.le_of_ble_eq_true rfl) dX7_coarselyMayHold_28 rfl (Runs.mono (h.2 c1) (fun r1 g1 h1_ => (aw_istore [some (.inr 26), some (.inl a1), some (.inl a2), some (.inl a3), some (.inl r1)] dX7_coarselyMayHold_31 (by decide) rfl (aw_iconst 0 dX7_coarselyMayHold_33 (by decide) (aw_istore [some (.inr 26), some (.inl a1), some (.inl a2), some (.inl a3), some (.inl r1), some (.inl 0)] dX7_coarselyMayHold_34 (by decide) rfl (aw_mask [true, true, true, false, true, true] rfl h1_)))))))))))
theorem sg_X7_coarselyMayHold_36 {Γ : Gam} {P : Int32 → Mem → Prop}  (a1 a2 a4 a5 : Int32) {g : Mem} (h : ((100 ≤ a5 → (Runs Γ 9 yX7_findRound iX7_findRound [.inr 26, .inl 1] g (fun r1 g1 => ((¬ a4 = 0 → AW Γ 11 iX7_coarselyMayHold P 23 [some (.inr 26), some (.inl a1), some (.inl a2), some (.inl 1)] [] g1) ∧ (a4 = 0 → ((r1 = 0 → AW Γ 11 iX7_coarselyMayHold P 23 [some (.inr 26), some (.inl a1), some (.inl a2), some (.inl 0)] [] g1) ∧ (¬ r1 = 0 → AW Γ 11 iX7_coarselyMayHold P 23 [some (.inr 26), some (.inl a1), some (.inl a2), some (.inl 1)] [] g1))))))) ∧ (¬ (100 ≤ a5) → (vp_in a5 100 ∧ ((¬ (g 31 a5.toNatClampNeg) = (-9) → (vp_in a5 100 ∧ AW Γ 11 iX7_coarselyMayHold P 36 [some (.inr 26), some (.inl a1), some (.inl a2), none, some (.inl a4), some (.inl (a5 + 1))] [] (up g 31 a5.toNatClampNeg 0))) ∧ ((g 31 a5.toNatClampNeg) = (-9) → (vp_in a5 100 ∧ AW Γ 11 iX7_coarselyMayHold P 36 [some (.inr 26), some (.inl a1), some (.inl a2), none, some (.inl a4), some (.inl (a5 + 1))] [] (up g 31 a5.toNatClampNeg (-9))))))))) : AW Γ 11 iX7_coarselyMayHold P 36 [some (.inr 26), some (.inl a1), some (.inl a2), none, some (.inl a4), some (.inl a5)] [] g :=
  (aw_iload dX7_coarselyMayHold_36 rfl (aw_bipush 100 dX7_coarselyMayHold_38 (by decide) (aw_icmp_ge 74 dX7_coarselyMayHold_40 (by decide) (fun c1 => (aw_aload_n dX7_coarselyMayHold_74 rfl (aw_iconst 1 dX7_coarselyMayHold_75 (by decide) (aw_callVi lkX7_157 ckX7_findRound ca_26 rfl (d := 9) (by decide) [.inl 1] rfl rfl (Nat.le_of_ble_eq_true rfl) dX7_coarselyMayHold_76 rfl (Runs.mono (h.1 c1) (fun r1 g1 h1_ => (aw_istore [some (.inr 26), some (.inl a1), some (.inl a2), none, some (.inl a4), some (.inl r1)] dX7_coarselyMayHold_79 (by decide) rfl (aw_iload dX7_coarselyMayHold_81 rfl (aw_if_ne 91 dX7_coarselyMayHold_83 (by decide) (fun c2 => (aw_iconst 1 dX7_coarselyMayHold_91 (by decide) (aw_goto 96 dX7_coarselyMayHold_92 (by decide) (aw_istore_n [some (.inr 26), some (.inl a1), some (.inl a2), some (.inl 1), some (.inl a4), some (.inl r1)] dX7_coarselyMayHold_96 (by decide) rfl (aw_goto 23 dX7_coarselyMayHold_97 (by decide) (aw_mask [true, true, true, true] rfl (h1_.1 c2))))))) (fun c2 => (aw_iload dX7_coarselyMayHold_86 rfl (aw_if_eq 95 dX7_coarselyMayHold_88 (by decide) (fun c3 => (aw_iconst 0 dX7_coarselyMayHold_95 (by decide) (aw_istore_n [some (.inr 26), some (.inl a1), some (.inl a2), some (.inl 0), some (.inl a4), some (.inl r1)] dX7_coarselyMayHold_96 (by decide) rfl (aw_goto 23 dX7_coarselyMayHold_97 (by decide) (aw_mask [true, true, true, true] rfl ((h1_.2 c2).1 c3)))))) (fun c3 => (aw_iconst 1 dX7_coarselyMayHold_91 (by decide) (aw_goto 96 dX7_coarselyMayHold_92 (by decide) (aw_istore_n [some (.inr 26), some (.inl a1), some (.inl a2), some (.inl 1), some (.inl a4), some (.inl r1)] dX7_coarselyMayHold_96 (by decide) rfl (aw_goto 23 dX7_coarselyMayHold_97 (by decide) (aw_mask [true, true, true, true] rfl ((h1_.2 c2).2 c3))))))))))))))))))) (fun c1 => (aw_aload_n dX7_coarselyMayHold_43 rfl (aw_getr 31 fkX7_22 fa_26_12 dX7_coarselyMayHold_44 (aw_iload dX7_coarselyMayHold_47 rfl (aw_aload_n dX7_coarselyMayHold_49 rfl (aw_getr 31 fkX7_22 fa_26_12 dX7_coarselyMayHold_50 (aw_iload dX7_coarselyMayHold_53 rfl (aw_iald aa_31 dX7_coarselyMayHold_55 (h.2 c1).1 (aw_bipush (-9) dX7_coarselyMayHold_56 (by decide) (aw_icmp_ne 66 dX7_coarselyMayHold_58 (by decide) (fun c4 => (aw_iconst 0 dX7_coarselyMayHold_66 (by decide) (aw_iast aa_31 dX7_coarselyMayHold_67 ((h.2 c1).2.1 c4).1 (aw_iinc (a5 + 1) [some (.inr 26), some (.inl a1), some (.inl a2), none, some (.inl a4), some (.inl (a5 + 1))] dX7_coarselyMayHold_68 rfl (by rfl) (by decide) rfl (aw_goto 36 dX7_coarselyMayHold_71 (by decide) (aw_mask [true, true, true, false, true, true] rfl ((h.2 c1).2.1 c4).2)))))) (fun c4 => (aw_bipush (-9) dX7_coarselyMayHold_61 (by decide) (aw_goto 67 dX7_coarselyMayHold_63 (by decide) (aw_iast aa_31 dX7_coarselyMayHold_67 ((h.2 c1).2.2 c4).1 (aw_iinc (a5 + 1) [some (.inr 26), some (.inl a1), some (.inl a2), none, some (.inl a4), some (.inl (a5 + 1))] dX7_coarselyMayHold_68 rfl (by rfl) (by decide) rfl (aw_goto 36 dX7_coarselyMayHold_71 (by decide) (aw_mask [true, true, true, false, true, true] rfl ((h.2 c1).2.2 c4).2))))))))))))))))))))
theorem lp_X7_nrm {Γ : Gam} {P : Int32 → Mem → Prop} {g : Mem} {x y m : Int32} (hP : ∀ g', (∀ k, k ≠ 31 → g' k = g k) → (∀ j, j < 100 → g' 31 j = if g 31 j = -9 then -9 else 0) → Runs Γ 9 yX7_findRound iX7_findRound [.inr 26, .inl 1] g' (fun r1 g1 => ((¬ m = 0 → AW Γ 11 iX7_coarselyMayHold P 23 [some (.inr 26), some (.inl x), some (.inl y), some (.inl 1)] [] g1) ∧ (m = 0 → ((r1 = 0 → AW Γ 11 iX7_coarselyMayHold P 23 [some (.inr 26), some (.inl x), some (.inl y), some (.inl 0)] [] g1) ∧ (¬ r1 = 0 → AW Γ 11 iX7_coarselyMayHold P 23 [some (.inr 26), some (.inl x), some (.inl y), some (.inl 1)] [] g1)))))) : ∀ n k g', k + n = 100 → (∀ k, k ≠ 31 → g' k = g k) → (∀ j, j < k → g' 31 j = if g 31 j = -9 then -9 else 0) → (∀ j, k ≤ j → g' 31 j = g 31 j) → AW Γ 11 iX7_coarselyMayHold P 36 [some (.inr 26), some (.inl x), some (.inl y), none, some (.inl m), some (.inl (nI k))] [] g' := by
  intro n
  induction n with
  | zero =>
    intro k g' hk e1 e2 e3
    have e : k = 100 := by omega
    subst e
    exact sg_X7_coarselyMayHold_36 _ _ _ _ ⟨fun _ => hP g' e1 e2, fun c => absurd (nI_le (Nat.le_refl 100) (by decide)) c⟩
  | succ n ih =>
    intro k g' hk e1 e2 e3
    have go : ∀ v : Int32, v = (if g 31 k = -9 then -9 else 0) → AW Γ 11 iX7_coarselyMayHold P 36 [some (.inr 26), some (.inl x), some (.inl y), none, some (.inl m), some (.inl (nI (k + 1)))] [] (up g' 31 k v) := by
      intro v hv
      refine ih (k + 1) _ (by omega) (fun j hj => by rw [up_ne hj, e1 j hj]) (fun j hj => ?_) (fun j hj => by rw [up_nx (by omega)]; exact e3 j (by omega))
      rcases Nat.lt_or_ge j k with q | q
      · rw [up_nx (by omega)]; exact e2 j q
      · rw [show j = k by omega, up_at, hv]
    refine sg_X7_coarselyMayHold_36 _ _ _ _ ⟨fun c => absurd c (nI_ge (show k < 100 by omega) (by decide)), fun _ => ?_⟩
    rw [nI_1, ix_nI (by omega), e3 k (Nat.le_refl _)]
    exact ⟨vp_nI (by omega) (by decide), fun c => ⟨vp_nI (by omega) (by decide), go 0 (by rw [if_neg c])⟩, fun c => ⟨vp_nI (by omega) (by decide), go (-9) (by rw [if_pos c])⟩⟩
/-- the rounds hold what the coarse analysis has found so far -/
def Kc (s : St) (g0 g : Mem) : Prop := (∀ k, k ≠ 31 → g k = g0 k) ∧ (∀ a b, ini s 0 a b = true → Fr s g a b = true) ∧ ∀ G : Rel, (∀ a b, ini s 0 a b = true → G a b = true) → cl5 s G → cl6 s G → ∀ a b, Fr s g a b = true → G a b = true
theorem lp_X7_coarse {Γ : Gam} {P : Int32 → Mem → Prop} {s : St} {g0 : Mem} {x y : Nat} (h : MW 27 s g0) (hx : x < s 0) (hy : y < s 0) (hP : ∀ g', (∀ k, k ≠ 31 → g' k = g0 k) → P (bi (cM s x y)) g') : ∀ n g m, 100 - crd (Fr s g) < n → Kc s g0 g → (m = false → cl5 s (Fr s g) ∧ cl6 s (Fr s g)) → AW Γ 11 iX7_coarselyMayHold P 23 [some (.inr 26), some (.inl (nI x)), some (.inl (nI y)), some (.inl (bi m))] [] g := by
  intro n
  have hn := h.2.n
  induction n with
  | zero => intro g m hc; omega
  | succ n ih =>
    intro g m hc hK hm
    refine sg_X7_coarselyMayHold_23 _ _ _ ?_
    rw [pair_nI', ix_nI (by omega)]
    refine ⟨fun c => ⟨vp_nI (by omega) (by decide), ?_⟩, fun c => ?_⟩
    · rw [bi_eq0] at c
      obtain ⟨h5, h6⟩ := hm c
      have hl : lf6 s (Fr s g) := ⟨hK.2.1, h5, h6, fun F f1 f2 f3 a b _ _ e => hK.2.2 F f1 f2 f3 a b e⟩
      have hp := hP g hK.1
      rw [cM_eq hl hx hy] at hp
      refine ⟨fun c2 => ?_, fun c2 => ?_⟩
      · rw [show Fr s g x y = true from Fr_t.mpr ⟨hx, hy, c2⟩] at hp; exact hp
      · rw [(Fr_iff hx hy).mpr c2] at hp; exact hp
    · have hmw : MW 27 s g := ⟨fun j hj => by rw [hK.1 27 (by decide)]; exact h.1 j hj, h.2⟩
      refine (ct_X7_merge hmw).mono (fun v g1 q => ?_)
      obtain ⟨f1, rfl, q⟩ := q
      refine lp_X7_nrm (g := g1) (fun g2 a1 a2 => ?_) 100 0 g1 rfl (fun _ _ => rfl) (fun j hj => by omega) (fun _ _ => rfl)
      have hm2 : MW 27 s g2 := ⟨fun j hj => by rw [a1 27 (by decide), q.1.1 27 (by decide)]; exact hmw.1 j hj, h.2⟩
      have eF : Fr s g2 = Fr s g1 := by
        funext a b
        by_cases hab : a < s 0 ∧ b < s 0
        · rw [Bool.eq_iff_iff, Fr_t, Fr_t, a2 _ (by omega)]
          by_cases e : g1 31 (10 * a + b) = -9
          · simp [e]
          · simp [e]
        · unfold Fr
          by_cases ha : a < s 0
          · have hb : ¬ b < s 0 := fun z => hab ⟨ha, z⟩
            simp [hb]
          · simp [ha]
      have eB1 : eB s g2 (nI 1) = Fr s g1 := by
        rw [← eF]
        funext a b
        unfold eB Fr
        by_cases hab : a < s 0 ∧ b < s 0
        · rw [a2 _ (by omega)]
          by_cases e : g1 31 (10 * a + b) = -9
          · simp [e]
          · have e1 : ¬ nI 1 ≤ (0 : Int32) := by decide
            simp [e, e1]
        · by_cases ha : a < s 0
          · have hb : ¬ b < s 0 := fun z => hab ⟨ha, z⟩
            simp [hb]
          · simp [ha]
      refine (ct_X7_findRound hm2 (r := 1) (by decide)).mono (fun v3 g3 z => ?_)
      obtain ⟨z1, z2, f3, rfl, z3⟩ := z
      rw [eB1] at z2 z3
      have F3 : ∀ a b, Fr s g3 a b = true ↔ (Fr s g1 a b = true ∨ (a < s 0 ∧ b < s 0 ∧ der s (Fr s g1) a b = true)) := by
        intro a b
        by_cases hab : a < s 0 ∧ b < s 0
        · rw [Fr_t, z2 a b hab.1 hab.2, vN]
          have e0 := Fr_iff (s := s) (g := g2) hab.1 hab.2
          rw [eF] at e0
          by_cases e : g2 31 (10 * a + b) = -9
          · have e1 := e0.mpr e
            by_cases hd : der s (Fr s g1) a b = true
            · rw [if_pos ⟨e, hd⟩]
              exact ⟨fun _ => Or.inr ⟨hab.1, hab.2, hd⟩, fun _ => ⟨hab.1, hab.2, by decide⟩⟩
            · rw [if_neg (fun q => hd q.2), e1]
              exact ⟨fun q => absurd e q.2.2, fun q => q.elim (fun q => Bool.noConfusion q) (fun q => absurd q.2.2 hd)⟩
          · rw [if_neg (fun q => e q.1)]
            exact ⟨fun _ => Or.inl (by rw [← eF]; exact Fr_t.mpr ⟨hab.1, hab.2, e⟩), fun _ => ⟨hab.1, hab.2, e⟩⟩
        · constructor
          · intro q; exact absurd ⟨(Fr_t.mp q).1, (Fr_t.mp q).2.1⟩ hab
          · intro q
            rcases q with q | q
            · exact absurd ⟨(Fr_t.mp q).1, (Fr_t.mp q).2.1⟩ hab
            · exact absurd ⟨q.1, q.2.1⟩ hab
      have hK3 : Kc s g0 g3 := by
        refine ⟨fun k hk => by rw [z1 k hk, a1 k hk, q.1.1 k hk, hK.1 k hk], fun a b e => (F3 a b).mpr (Or.inl (q.1.sub (hK.2.1 a b e))), fun G G0 G5 G6 => ?_⟩
        have s1 : ∀ a b, Fr s g1 a b = true → G a b = true := q.2.2.2.2 G G6 (hK.2.2 G G0 G5 G6)
        intro a b e
        rcases (F3 a b).mp e with e | ⟨e1, e2, e3⟩
        · exact s1 a b e
        · exact G5 a b e1 e2 (der_mono s1 e3)
      have sub3 : ∀ a b, Fr s g a b = true → Fr s g3 a b = true := fun a b e => (F3 a b).mpr (Or.inl (q.1.sub e))
      have more : (f1 = true ∨ f3 = true) → AW Γ 11 iX7_coarselyMayHold P 23 [some (.inr 26), some (.inl (nI x)), some (.inl (nI y)), some (.inl (bi true))] [] g3 := by
        intro hf
        have hg : crd (Fr s g) < crd (Fr s g3) := by
          rcases hf with hf | hf
          · obtain ⟨a, b, c1, c2⟩ := q.2.2.1 hf
            obtain ⟨ha, hb, -⟩ := Fr_t.mp c2
            exact crd_lt sub3 (by omega) (by omega) c1 ((F3 a b).mpr (Or.inl c2))
          · obtain ⟨a, b, ha, hb, c1, c2⟩ := z3.mp hf
            have e0 := (Fr_iff (s := s) (g := g2) ha hb).mpr c1
            rw [eF] at e0
            refine crd_lt sub3 (a := a) (b := b) (by omega) (by omega) ?_ ((F3 a b).mpr (Or.inr ⟨ha, hb, c2⟩))
            cases e1 : Fr s g a b with
            | false => rfl
            | true => rw [q.1.sub e1] at e0; cases e0
        have := crd_le (Fr s g3)
        exact ih g3 true (by omega) hK3 (fun e => Bool.noConfusion e)
      refine ⟨fun c1 => more (Or.inl (bi_ne0.mp c1)), fun c1 => ⟨fun c2 => ?_, fun c2 => more (Or.inr (bi_ne0.mp c2))⟩⟩
      rw [bi_eq0] at c1 c2
      -- nothing new: closed
      have e13 : Fr s g3 = Fr s g1 := by
        funext a b
        rw [Bool.eq_iff_iff, F3]
        constructor
        · intro e
          rcases e with e | ⟨e1, e2, e3⟩
          · exact e
          · cases e0 : Fr s g1 a b with
            | true => rfl
            | false =>
              have : f3 = true := z3.mpr ⟨a, b, e1, e2, (Fr_iff e1 e2).mp (by rw [eF]; exact e0), e3⟩
              rw [c2] at this; cases this
        · exact fun e => Or.inl e
      have e1g : Fr s g1 = Fr s g := by
        funext a b
        rw [Bool.eq_iff_iff]
        exact ⟨q.2.1 c1 a b, fun e => q.1.sub e⟩
      have hcl : cl5 s (Fr s g3) ∧ cl6 s (Fr s g3) := by
        refine ⟨fun a b ha hb hd => ?_, fun x' y' a b hx' hy' ha hb hF e3 e1 e2 => ?_⟩
        · rw [e13] at hd
          exact (F3 a b).mpr (Or.inr ⟨ha, hb, hd⟩)
        · rw [e13, e1g] at hF ⊢
          exact q.2.2.2.1 c1 x' y' hx' hy' (Or.inl hx') hF a b ha hb e1 e2 e3
      -- the last look
      refine sg_X7_coarselyMayHold_23 _ _ _ ?_
      rw [pair_nI', ix_nI (by omega)]
      have hl : lf6 s (Fr s g3) := ⟨hK3.2.1, hcl.1, hcl.2, fun F f1 f2 f3 a b _ _ e => hK3.2.2 F f1 f2 f3 a b e⟩
      have hp := hP g3 hK3.1
      rw [cM_eq hl hx hy] at hp
      refine ⟨fun _ => ⟨vp_nI (by omega) (by decide), fun c2 => ?_, fun c2 => ?_⟩, fun c => absurd rfl c⟩
      · rw [show Fr s g3 x y = true from Fr_t.mpr ⟨hx, hy, c2⟩] at hp; exact hp
      · rw [(Fr_iff hx hy).mpr c2] at hp; exact hp
noncomputable def sp_coarse (a : Ab) (x y : Int32) : Int32 := if inR (a.1 0) x && inR (a.1 0) y then bi (cM a.1 x.toNatClampNeg y.toNatClampNeg) else -1
theorem om_coarse {Γ : Gam} {a : Ab} {g : Mem} {x y : Int32} (h : MI a g) (hw : WA a) : Runs Γ 11 yX7_coarselyMayHold iX7_coarselyMayHold [.inr 26, .inl x, .inl y] g (OpM (sp_coarse a x y, a) g) := by
  have hn := hw.1.n
  have hL := LR_le hw.1 0
  unfold sp_coarse
  refine Runs.intro (by decide) rfl (Nat.le_of_ble_eq_true rfl) (sg_X7_coarselyMayHold_0 a.1 x y ⟨h.thr.s hw, fun c1 => ?_, fun c1 => ?_⟩)
  · rw [bi_ne0] at c1
    rw [if_pos c1]
    rw [Bool.and_eq_true] at c1
    obtain ⟨x, hx, rfl⟩ := inR_ob c1.1
    obtain ⟨y, hy, rfl⟩ := inR_ob c1.2
    rw [ix_nI (by omega), ix_nI (by omega)]
    refine (ct_X7_analyse (h.thr.s hw) (rem := 0) (by decide)).mono (fun r g1 q => ?_)
    have h1 := h.thr.an q.1
    have eF : Fr a.1 g1 = fnd a.1 0 := by
      funext u v
      by_cases huv : u < a.1 0 ∧ v < a.1 0
      · have e0 := Fr_iff (s := a.1) (g := g1) huv.1 huv.2
        rw [q.2.1 u v huv.1 huv.2, fr_no (by omega)] at e0
        have e1 : Fr a.1 g1 u v = false ↔ fnd a.1 0 u v = false := e0
        cases e2 : fnd a.1 0 u v with
        | false => exact e1.mpr e2
        | true =>
          cases e3 : Fr a.1 g1 u v with
          | true => rfl
          | false => rw [e1.mp e3] at e2; cases e2
      · cases e2 : fnd a.1 0 u v with
        | true => exact absurd (fnd_in hw.1 e2) huv
        | false =>
          cases e3 : Fr a.1 g1 u v with
          | false => rfl
          | true => exact absurd ⟨(Fr_t.mp e3).1, (Fr_t.mp e3).2.1⟩ huv
    refine lp_X7_coarse (h1.s hw) hx hy (fun g2 f => ⟨rfl, ?_, ?_⟩) 101 g1 true (by omega) ⟨fun _ _ => rfl, fun a b e => by rw [eF]; exact ini_fnd e, fun G G0 G5 _ a b e => by rw [eF] at e; exact fnd_least G0 G5 e⟩ (fun e => Bool.noConfusion e)
    · have h2 := h1
      unfold MI MA HM TM at h2 ⊢
      rw [f 27 (by decide), f 29 (by decide), f 30 (by decide), f 26 (by decide)]
      exact h2
    · exact ((frM_thr g).trans (frM_an q.1)).trans (fun k hk => f k (by omega))
  · rw [bi_eq0] at c1; rw [if_neg (by simp [c1])]; exact OpM.same h
