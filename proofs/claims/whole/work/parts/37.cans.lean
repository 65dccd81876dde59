/-! The class's answers out of the analysis. -/
theorem CI.an {a : Ab} {g g' : Mem} (h : CI a g) (h8 : g' 0 8 = 1) (hA : AnOk a.1 g') (hf : ∀ k, ((1 ≤ k ∧ k < 6) ∨ 25 < k) → g' k = g k) : CI a g' := by
  obtain ⟨h1, h2, h3, _⟩ := h
  refine ⟨h1.ext (fun k k1 k2 => hf k (by omega)), h2.ext (hf 4 (by omega)) (fun k hk => hf k (by omega)), ?_, Or.inr ⟨h8, hA⟩⟩
  unfold TC at h3 ⊢
  rw [hf 1 (by omega), hf 2 (by omega)]
  exact h3
theorem OpC.an {a : Ab} {g g' : Mem} {e : Int32} (h : CI a g) (h8 : g' 0 8 = 1) (hA : AnOk a.1 g') (hf : ∀ k, ((1 ≤ k ∧ k < 6) ∨ 25 < k) → g' k = g k) : OpC (e, a) g e g' := ⟨rfl, h.an h8 hA hf, fun k k1 k2 => hf k (by omega)⟩
theorem sg_X6_mayHold_0 {Γ : Gam} {P : Int32 → Mem → Prop}  (s : St) (a1 a2 : Int32) {g : Mem} (h : (CW 34 s g ∧ ((¬ (bi (inR (s 0) a1 && inR (s 0) a2)) = 0 → (Runs Γ 6 yX6_refreshAnalysis iX6_refreshAnalysis [.inr 0] g (fun r1 g1 => (vp_in a1 10 ∧ (((bi (hasB (g1 13 a1.toNatClampNeg) a2)) = 0 → P 0 g1) ∧ (¬ (bi (hasB (g1 13 a1.toNatClampNeg) a2)) = 0 → P 1 g1)))))) ∧ ((bi (inR (s 0) a1 && inR (s 0) a2)) = 0 → P (-1) g)))) : AW Γ 7 iX6_mayHold P 0 [some (.inr 0), some (.inl a1), some (.inl a2)] [] g :=
  (aw_aload_n dX6_mayHold_0 rfl (aw_getr 34 fkX6_19 fa_0_1 dX6_mayHold_1 (aw_iload_n dX6_mayHold_4 rfl (aw_iload_n dX6_mayHold_5 rfl (aw_callVi lkX6_120 ckX4_hasBoth (cs_ isSt_34) rfl (d := 2) (by decide) [.inl a1, .inl a2] rfl rfl (Nat.le_of_ble_eq_true rfl) dX6_mayHold_6 rfl (Runs.fn ((ct_X4_hasBoth isSt_34) h.1) (aw_if_ne 14 dX6_mayHold_9 (by decide) (fun c1 => (aw_aload_n dX6_mayHold_14 rfl (aw_callVv lkX6_123 ckX6_refreshAnalysis ca_0 rfl (d := 6) (by decide) [] rfl rfl (Nat.le_of_ble_eq_true rfl) dX6_mayHold_15 rfl (Runs.mono (h.2.1 c1) (fun r1 g1 h1_ => (aw_aload_n dX6_mayHold_18 rfl (aw_getr 12 fkX6_43 fa_0_5 dX6_mayHold_19 (aw_getr 13 fkX6_126 fa_12_0 dX6_mayHold_22 (aw_iload_n dX6_mayHold_25 rfl (aw_iald aa_13 dX6_mayHold_26 h1_.1 (aw_iload_n dX6_mayHold_27 rfl (aw_callSi lkX6_129 ckX6_contains (d := 1) (by decide) [.inl (g1 13 a1.toNatClampNeg), .inl a2] rfl rfl (Nat.le_of_ble_eq_true rfl) dX6_mayHold_28 rfl (Runs.fn ct_X6_contains (aw_if_eq 38 dX6_mayHold_31 (by decide) (fun c2 => (aw_iconst 0 dX6_mayHold_38 (by decide) (aw_iret rfl (vp_nar_int _) dX6_mayHold_39 (h1_.2.1 c2)))) (fun c2 => (aw_iconst 1 dX6_mayHold_34 (by decide) (aw_goto 39 dX6_mayHold_35 (by decide) (aw_iret rfl (vp_nar_int _) dX6_mayHold_39 (h1_.2.2 c2))))))))))))))))))) (fun c1 => (aw_iconst (-1) dX6_mayHold_12 (by decide) (aw_iret rfl (vp_nar_int _) dX6_mayHold_13 (h.2.2 c1)))))))))))
theorem oc_mayHold {Γ : Gam} {a : Ab} {g : Mem} {x y : Int32} (h : CI a g) (hw : WA a) : Runs Γ 7 yX6_mayHold iX6_mayHold [.inr 0, .inl x, .inl y] g (OpC (sp_mayHold a x y, a) g) := by
  have hn := hw.1.n
  unfold sp_mayHold
  refine Runs.intro (by decide) rfl (Nat.le_of_ble_eq_true rfl) (sg_X6_mayHold_0 a.1 x y ⟨h.s hw, fun c1 => ?_, fun c1 => ?_⟩)
  · rw [bi_ne0] at c1
    rw [if_pos c1]
    rw [Bool.and_eq_true] at c1
    obtain ⟨x, hx, rfl⟩ := inR_ob c1.1
    obtain ⟨y, hy, rfl⟩ := inR_ob c1.2
    rw [ix_nI (n := x) (by omega), ix_nI (n := y) (by omega)]
    refine (ct_X6_refresh (h.s hw) h.2.2.2).mono (fun _ g1 q => ?_)
    obtain ⟨q1, q2, q3, q4⟩ := q
    rw [q2.2.1.1 x hx, has_msk hn hy]
    refine ⟨vp_nI (by omega) (by decide), fun c => ?_, fun c => ?_⟩
    · rw [bi_eq0.mp c]; exact OpC.an h q1 q2 (fun k hk => q3 k (by omega))
    · rw [bi_ne0.mp c]; exact OpC.an h q1 q2 (fun k hk => q3 k (by omega))
  · rw [bi_eq0] at c1; rw [if_neg (by simp [c1])]; exact OpC.same h
theorem sg_X6_coarselyMayHold_0 {Γ : Gam} {P : Int32 → Mem → Prop}  (s : St) (a1 a2 : Int32) {g : Mem} (h : (CW 34 s g ∧ ((¬ (bi (inR (s 0) a1 && inR (s 0) a2)) = 0 → (Runs Γ 6 yX6_refreshAnalysis iX6_refreshAnalysis [.inr 0] g (fun r1 g1 => (vp_in a1 10 ∧ (((bi (hasB (g1 23 a1.toNatClampNeg) a2)) = 0 → P 0 g1) ∧ (¬ (bi (hasB (g1 23 a1.toNatClampNeg) a2)) = 0 → P 1 g1)))))) ∧ ((bi (inR (s 0) a1 && inR (s 0) a2)) = 0 → P (-1) g)))) : AW Γ 7 iX6_coarselyMayHold P 0 [some (.inr 0), some (.inl a1), some (.inl a2)] [] g :=
  (aw_aload_n dX6_coarselyMayHold_0 rfl (aw_getr 34 fkX6_19 fa_0_1 dX6_coarselyMayHold_1 (aw_iload_n dX6_coarselyMayHold_4 rfl (aw_iload_n dX6_coarselyMayHold_5 rfl (aw_callVi lkX6_120 ckX4_hasBoth (cs_ isSt_34) rfl (d := 2) (by decide) [.inl a1, .inl a2] rfl rfl (Nat.le_of_ble_eq_true rfl) dX6_coarselyMayHold_6 rfl (Runs.fn ((ct_X4_hasBoth isSt_34) h.1) (aw_if_ne 14 dX6_coarselyMayHold_9 (by decide) (fun c1 => (aw_aload_n dX6_coarselyMayHold_14 rfl (aw_callVv lkX6_123 ckX6_refreshAnalysis ca_0 rfl (d := 6) (by decide) [] rfl rfl (Nat.le_of_ble_eq_true rfl) dX6_coarselyMayHold_15 rfl (Runs.mono (h.2.1 c1) (fun r1 g1 h1_ => (aw_aload_n dX6_coarselyMayHold_18 rfl (aw_getr 22 fkX6_50 fa_0_6 dX6_coarselyMayHold_19 (aw_getr 23 fkX6_152 fa_22_0 dX6_coarselyMayHold_22 (aw_iload_n dX6_coarselyMayHold_25 rfl (aw_iald aa_23 dX6_coarselyMayHold_26 h1_.1 (aw_iload_n dX6_coarselyMayHold_27 rfl (aw_callSi lkX6_129 ckX6_contains (d := 1) (by decide) [.inl (g1 23 a1.toNatClampNeg), .inl a2] rfl rfl (Nat.le_of_ble_eq_true rfl) dX6_coarselyMayHold_28 rfl (Runs.fn ct_X6_contains (aw_if_eq 38 dX6_coarselyMayHold_31 (by decide) (fun c2 => (aw_iconst 0 dX6_coarselyMayHold_38 (by decide) (aw_iret rfl (vp_nar_int _) dX6_coarselyMayHold_39 (h1_.2.1 c2)))) (fun c2 => (aw_iconst 1 dX6_coarselyMayHold_34 (by decide) (aw_goto 39 dX6_coarselyMayHold_35 (by decide) (aw_iret rfl (vp_nar_int _) dX6_coarselyMayHold_39 (h1_.2.2 c2))))))))))))))))))) (fun c1 => (aw_iconst (-1) dX6_coarselyMayHold_12 (by decide) (aw_iret rfl (vp_nar_int _) dX6_coarselyMayHold_13 (h.2.2 c1)))))))))))
theorem oc_coarse {Γ : Gam} {a : Ab} {g : Mem} {x y : Int32} (h : CI a g) (hw : WA a) : Runs Γ 7 yX6_coarselyMayHold iX6_coarselyMayHold [.inr 0, .inl x, .inl y] g (OpC (sp_coarse a x y, a) g) := by
  have hn := hw.1.n
  unfold sp_coarse
  refine Runs.intro (by decide) rfl (Nat.le_of_ble_eq_true rfl) (sg_X6_coarselyMayHold_0 a.1 x y ⟨h.s hw, fun c1 => ?_, fun c1 => ?_⟩)
  · rw [bi_ne0] at c1
    rw [if_pos c1]
    rw [Bool.and_eq_true] at c1
    obtain ⟨x, hx, rfl⟩ := inR_ob c1.1
    obtain ⟨y, hy, rfl⟩ := inR_ob c1.2
    rw [ix_nI (n := x) (by omega), ix_nI (n := y) (by omega)]
    refine (ct_X6_refresh (h.s hw) h.2.2.2).mono (fun _ g1 q => ?_)
    obtain ⟨q1, q2, q3, q4⟩ := q
    obtain ⟨E, e1, e2⟩ := q2.2.2
    rw [e2 x hx, has_msk hn hy, cM_eq e1 hx hy]
    refine ⟨vp_nI (by omega) (by decide), fun c => ?_, fun c => ?_⟩
    · rw [bi_eq0.mp c]; exact OpC.an h q1 q2 (fun k hk => q3 k (by omega))
    · rw [bi_ne0.mp c]; exact OpC.an h q1 q2 (fun k hk => q3 k (by omega))
  · rw [bi_eq0] at c1; rw [if_neg (by simp [c1])]; exact OpC.same h
theorem sg_X6_round_0 {Γ : Gam} {P : Int32 → Mem → Prop}  (s : St) (a1 a2 : Int32) {g : Mem} (h : (CW 34 s g ∧ ((¬ (bi (inR (s 0) a1 && inR (s 0) a2)) = 0 → (Runs Γ 6 yX6_refreshAnalysis iX6_refreshAnalysis [.inr 0] g (fun r1 g1 => (vp_in (a1 * 10 + a2) 100 ∧ P (g1 15 (a1 * 10 + a2).toNatClampNeg) g1)))) ∧ ((bi (inR (s 0) a1 && inR (s 0) a2)) = 0 → P (-1) g)))) : AW Γ 7 iX6_round P 0 [some (.inr 0), some (.inl a1), some (.inl a2)] [] g :=
  (aw_aload_n dX6_round_0 rfl (aw_getr 34 fkX6_19 fa_0_1 dX6_round_1 (aw_iload_n dX6_round_4 rfl (aw_iload_n dX6_round_5 rfl (aw_callVi lkX6_120 ckX4_hasBoth (cs_ isSt_34) rfl (d := 2) (by decide) [.inl a1, .inl a2] rfl rfl (Nat.le_of_ble_eq_true rfl) dX6_round_6 rfl (Runs.fn ((ct_X4_hasBoth isSt_34) h.1) (aw_if_ne 14 dX6_round_9 (by decide) (fun c1 => (aw_aload_n dX6_round_14 rfl (aw_callVv lkX6_123 ckX6_refreshAnalysis ca_0 rfl (d := 6) (by decide) [] rfl rfl (Nat.le_of_ble_eq_true rfl) dX6_round_15 rfl (Runs.mono (h.2.1 c1) (fun r1 g1 h1_ => (aw_aload_n dX6_round_18 rfl (aw_getr 12 fkX6_43 fa_0_5 dX6_round_19 (aw_getr 15 fkX6_132 fa_12_2 dX6_round_22 (aw_iload_n dX6_round_25 rfl (aw_iload_n dX6_round_26 rfl (aw_callSi lkX6_135 ckX6_pair (d := 1) (by decide) [.inl a1, .inl a2] rfl rfl (Nat.le_of_ble_eq_true rfl) dX6_round_27 rfl (Runs.fn ct_X6_pair (aw_iald aa_15 dX6_round_30 h1_.1 (aw_iret rfl (vp_nar_int _) dX6_round_31 h1_.2)))))))))))))) (fun c1 => (aw_iconst (-1) dX6_round_12 (by decide) (aw_iret rfl (vp_nar_int _) dX6_round_13 (h.2.2 c1)))))))))))
theorem oc_round {Γ : Gam} {a : Ab} {g : Mem} {x y : Int32} (h : CI a g) (hw : WA a) : Runs Γ 7 yX6_round iX6_round [.inr 0, .inl x, .inl y] g (OpC (sp_round a x y, a) g) := by
  have hn := hw.1.n
  unfold sp_round
  refine Runs.intro (by decide) rfl (Nat.le_of_ble_eq_true rfl) (sg_X6_round_0 a.1 x y ⟨h.s hw, fun c1 => ?_, fun c1 => ?_⟩)
  · rw [bi_ne0] at c1
    rw [if_pos c1]
    rw [Bool.and_eq_true] at c1
    obtain ⟨x, hx, rfl⟩ := inR_ob c1.1
    obtain ⟨y, hy, rfl⟩ := inR_ob c1.2
    rw [ix_nI (n := x) (by omega), ix_nI (n := y) (by omega)]
    refine (ct_X6_refresh (h.s hw) h.2.2.2).mono (fun _ g1 q => ?_)
    obtain ⟨q1, q2, q3, q4⟩ := q
    rw [pairc, ix_nI (n := 10 * x + y) (by omega), (q2.2.1.2.1 x y hx hy).1]
    exact ⟨vp_nI (by omega) (by decide), OpC.an h q1 q2 (fun k hk => q3 k (by omega))⟩
  · rw [bi_eq0] at c1; rw [if_neg (by simp [c1])]; exact OpC.same h
theorem sg_X6_rule_0 {Γ : Gam} {P : Int32 → Mem → Prop}  (s : St) (a1 a2 : Int32) {g : Mem} (h : (CW 34 s g ∧ ((¬ (bi (inR (s 0) a1 && inR (s 0) a2)) = 0 → (Runs Γ 6 yX6_refreshAnalysis iX6_refreshAnalysis [.inr 0] g (fun r1 g1 => (vp_in (a1 * 10 + a2) 100 ∧ P (g1 16 (a1 * 10 + a2).toNatClampNeg) g1)))) ∧ ((bi (inR (s 0) a1 && inR (s 0) a2)) = 0 → P (-1) g)))) : AW Γ 7 iX6_rule P 0 [some (.inr 0), some (.inl a1), some (.inl a2)] [] g :=
  (aw_aload_n dX6_rule_0 rfl (aw_getr 34 fkX6_19 fa_0_1 dX6_rule_1 (aw_iload_n dX6_rule_4 rfl (aw_iload_n dX6_rule_5 rfl (aw_callVi lkX6_120 ckX4_hasBoth (cs_ isSt_34) rfl (d := 2) (by decide) [.inl a1, .inl a2] rfl rfl (Nat.le_of_ble_eq_true rfl) dX6_rule_6 rfl (Runs.fn ((ct_X4_hasBoth isSt_34) h.1) (aw_if_ne 14 dX6_rule_9 (by decide) (fun c1 => (aw_aload_n dX6_rule_14 rfl (aw_callVv lkX6_123 ckX6_refreshAnalysis ca_0 rfl (d := 6) (by decide) [] rfl rfl (Nat.le_of_ble_eq_true rfl) dX6_rule_15 rfl (Runs.mono (h.2.1 c1) (fun r1 g1 h1_ => (aw_aload_n dX6_rule_18 rfl (aw_getr 12 fkX6_43 fa_0_5 dX6_rule_19 (aw_getr 16 fkX6_139 fa_12_3 dX6_rule_22 (aw_iload_n dX6_rule_25 rfl (aw_iload_n dX6_rule_26 rfl (aw_callSi lkX6_135 ckX6_pair (d := 1) (by decide) [.inl a1, .inl a2] rfl rfl (Nat.le_of_ble_eq_true rfl) dX6_rule_27 rfl (Runs.fn ct_X6_pair (aw_iald aa_16 dX6_rule_30 h1_.1 (aw_iret rfl (vp_nar_int _) dX6_rule_31 h1_.2)))))))))))))) (fun c1 => (aw_iconst (-1) dX6_rule_12 (by decide) (aw_iret rfl (vp_nar_int _) dX6_rule_13 (h.2.2 c1)))))))))))
theorem oc_rule {Γ : Gam} {a : Ab} {g : Mem} {x y : Int32} (h : CI a g) (hw : WA a) : Runs Γ 7 yX6_rule iX6_rule [.inr 0, .inl x, .inl y] g (OpC (sp_rule a x y, a) g) := by
  have hn := hw.1.n
  unfold sp_rule
  refine Runs.intro (by decide) rfl (Nat.le_of_ble_eq_true rfl) (sg_X6_rule_0 a.1 x y ⟨h.s hw, fun c1 => ?_, fun c1 => ?_⟩)
  · rw [bi_ne0] at c1
    rw [if_pos c1]
    rw [Bool.and_eq_true] at c1
    obtain ⟨x, hx, rfl⟩ := inR_ob c1.1
    obtain ⟨y, hy, rfl⟩ := inR_ob c1.2
    rw [ix_nI (n := x) (by omega), ix_nI (n := y) (by omega)]
    refine (ct_X6_refresh (h.s hw) h.2.2.2).mono (fun _ g1 q => ?_)
    obtain ⟨q1, q2, q3, q4⟩ := q
    rw [pairc, ix_nI (n := 10 * x + y) (by omega), (q2.2.1.2.1 x y hx hy).2.1]
    exact ⟨vp_nI (by omega) (by decide), OpC.an h q1 q2 (fun k hk => q3 k (by omega))⟩
  · rw [bi_eq0] at c1; rw [if_neg (by simp [c1])]; exact OpC.same h
theorem sg_X6_partner_0 {Γ : Gam} {P : Int32 → Mem → Prop}  (s : St) (a1 a2 : Int32) {g : Mem} (h : (CW 34 s g ∧ ((¬ (bi (inR (s 0) a1 && inR (s 0) a2)) = 0 → (Runs Γ 6 yX6_refreshAnalysis iX6_refreshAnalysis [.inr 0] g (fun r1 g1 => (vp_in (a1 * 10 + a2) 100 ∧ P (g1 17 (a1 * 10 + a2).toNatClampNeg) g1)))) ∧ ((bi (inR (s 0) a1 && inR (s 0) a2)) = 0 → P (-1) g)))) : AW Γ 7 iX6_partner P 0 [some (.inr 0), some (.inl a1), some (.inl a2)] [] g :=
  (aw_aload_n dX6_partner_0 rfl (aw_getr 34 fkX6_19 fa_0_1 dX6_partner_1 (aw_iload_n dX6_partner_4 rfl (aw_iload_n dX6_partner_5 rfl (aw_callVi lkX6_120 ckX4_hasBoth (cs_ isSt_34) rfl (d := 2) (by decide) [.inl a1, .inl a2] rfl rfl (Nat.le_of_ble_eq_true rfl) dX6_partner_6 rfl (Runs.fn ((ct_X4_hasBoth isSt_34) h.1) (aw_if_ne 14 dX6_partner_9 (by decide) (fun c1 => (aw_aload_n dX6_partner_14 rfl (aw_callVv lkX6_123 ckX6_refreshAnalysis ca_0 rfl (d := 6) (by decide) [] rfl rfl (Nat.le_of_ble_eq_true rfl) dX6_partner_15 rfl (Runs.mono (h.2.1 c1) (fun r1 g1 h1_ => (aw_aload_n dX6_partner_18 rfl (aw_getr 12 fkX6_43 fa_0_5 dX6_partner_19 (aw_getr 17 fkX6_142 fa_12_4 dX6_partner_22 (aw_iload_n dX6_partner_25 rfl (aw_iload_n dX6_partner_26 rfl (aw_callSi lkX6_135 ckX6_pair (d := 1) (by decide) [.inl a1, .inl a2] rfl rfl (Nat.le_of_ble_eq_true rfl) dX6_partner_27 rfl (Runs.fn ct_X6_pair (aw_iald aa_17 dX6_partner_30 h1_.1 (aw_iret rfl (vp_nar_int _) dX6_partner_31 h1_.2)))))))))))))) (fun c1 => (aw_iconst (-1) dX6_partner_12 (by decide) (aw_iret rfl (vp_nar_int _) dX6_partner_13 (h.2.2 c1)))))))))))
theorem oc_partner {Γ : Gam} {a : Ab} {g : Mem} {x y : Int32} (h : CI a g) (hw : WA a) : Runs Γ 7 yX6_partner iX6_partner [.inr 0, .inl x, .inl y] g (OpC (sp_partner a x y, a) g) := by
  have hn := hw.1.n
  unfold sp_partner
  refine Runs.intro (by decide) rfl (Nat.le_of_ble_eq_true rfl) (sg_X6_partner_0 a.1 x y ⟨h.s hw, fun c1 => ?_, fun c1 => ?_⟩)
  · rw [bi_ne0] at c1
    rw [if_pos c1]
    rw [Bool.and_eq_true] at c1
    obtain ⟨x, hx, rfl⟩ := inR_ob c1.1
    obtain ⟨y, hy, rfl⟩ := inR_ob c1.2
    rw [ix_nI (n := x) (by omega), ix_nI (n := y) (by omega)]
    refine (ct_X6_refresh (h.s hw) h.2.2.2).mono (fun _ g1 q => ?_)
    obtain ⟨q1, q2, q3, q4⟩ := q
    rw [pairc, ix_nI (n := 10 * x + y) (by omega), (q2.2.1.2.1 x y hx hy).2.2.1]
    exact ⟨vp_nI (by omega) (by decide), OpC.an h q1 q2 (fun k hk => q3 k (by omega))⟩
  · rw [bi_eq0] at c1; rw [if_neg (by simp [c1])]; exact OpC.same h
theorem sg_X6_lastRound_0 {Γ : Gam} {P : Int32 → Mem → Prop}  {g : Mem} (h : (Runs Γ 6 yX6_refreshAnalysis iX6_refreshAnalysis [.inr 0] g (fun r1 g1 => P (g1 12 7) g1))) : AW Γ 7 iX6_lastRound P 0 [some (.inr 0)] [] g :=
  (aw_aload_n dX6_lastRound_0 rfl (aw_callVv lkX6_123 ckX6_refreshAnalysis ca_0 rfl (d := 6) (by decide) [] rfl rfl (Nat.le_of_ble_eq_true rfl) dX6_lastRound_1 rfl (Runs.mono h (fun r1 g1 h1_ => (aw_aload_n dX6_lastRound_4 rfl (aw_getr 12 fkX6_43 fa_0_5 dX6_lastRound_5 (aw_geti fkX6_149 fa_12_7 dX6_lastRound_8 (aw_iret rfl (vp_nar_int _) dX6_lastRound_11 h1_))))))))
theorem oc_lastRound {Γ : Gam} {a : Ab} {g : Mem} (h : CI a g) (hw : WA a) : Runs Γ 7 yX6_lastRound iX6_lastRound [.inr 0] g (OpC (nI (LR a.1 0), a) g) := by
  refine Runs.intro (by decide) rfl (Nat.le_of_ble_eq_true rfl) (sg_X6_lastRound_0 ?_)
  refine (ct_X6_refresh (h.s hw) h.2.2.2).mono (fun _ g1 q => ?_)
  obtain ⟨q1, q2, q3, q4⟩ := q
  rw [q2.2.1.2.2]
  exact OpC.an h q1 q2 (fun k hk => q3 k (by omega))
theorem sg_X4_countViolations_0 {Γ : Gam} {P : Int32 → Mem → Prop} (b : Nat) (hb : isSt b) (q : Nat) (hq : aAt q = some (0, 10)) {g : Mem} (h : AW Γ 2 iX4_countViolations P 4 [some (.inr b), some (.inr q), some (.inl 0), some (.inl 0)] [] g) : AW Γ 2 iX4_countViolations P 0 [some (.inr b), some (.inr q)] [] g :=
  (aw_iconst 0 dX4_countViolations_0 (by decide) (aw_istore_n [some (.inr b), some (.inr q), some (.inl 0)] dX4_countViolations_1 (by decide) rfl (aw_iconst 0 dX4_countViolations_2 (by decide) (aw_istore_n [some (.inr b), some (.inr q), some (.inl 0), some (.inl 0)] dX4_countViolations_3 (by decide) rfl (aw_mask [true, true, true, true] rfl h)))))
theorem sg_X4_countViolations_4 {Γ : Gam} {P : Int32 → Mem → Prop} (b : Nat) (hb : isSt b) (q : Nat) (hq : aAt q = some (0, 10)) (a2 a3 : Int32) {g : Mem} (h : (((g b 8) ≤ a3 → P a2 g) ∧ (¬ ((g b 8) ≤ a3) → (vp_in a3 4 ∧ (vp_in (g (b + 7) a3.toNatClampNeg) 10 ∧ (vp_in a3 4 ∧ (((bi (hasB (g q (g (b + 7) a3.toNatClampNeg).toNatClampNeg) (g (b + 8) a3.toNatClampNeg))) = 0 → AW Γ 2 iX4_countViolations P 4 [some (.inr b), some (.inr q), some (.inl a2), some (.inl (a3 + 1))] [] g) ∧ (¬ (bi (hasB (g q (g (b + 7) a3.toNatClampNeg).toNatClampNeg) (g (b + 8) a3.toNatClampNeg))) = 0 → AW Γ 2 iX4_countViolations P 4 [some (.inr b), some (.inr q), some (.inl (a2 + 1)), some (.inl (a3 + 1))] [] g)))))))) : AW Γ 2 iX4_countViolations P 4 [some (.inr b), some (.inr q), some (.inl a2), some (.inl a3)] [] g :=
  (aw_iload_n dX4_countViolations_4 rfl (aw_aload_n dX4_countViolations_5 rfl (aw_geti fkX4_37 (fs_8 hb) dX4_countViolations_6 (aw_icmp_ge 41 dX4_countViolations_9 (by decide) (fun c1 => (aw_iload_n dX4_countViolations_41 rfl (aw_iret rfl (vp_nar_int _) dX4_countViolations_42 (h.1 c1)))) (fun c1 => (aw_aload_n dX4_countViolations_12 rfl (aw_aload_n dX4_countViolations_13 rfl (aw_getr (b + 7) fkX4_40 (fs_9 hb) dX4_countViolations_14 (aw_iload_n dX4_countViolations_17 rfl (aw_iald (as_7 hb) dX4_countViolations_18 (h.2 c1).1 (aw_iald hq dX4_countViolations_19 (h.2 c1).2.1 (aw_aload_n dX4_countViolations_20 rfl (aw_getr (b + 8) fkX4_43 (fs_10 hb) dX4_countViolations_21 (aw_iload_n dX4_countViolations_24 rfl (aw_iald (as_8 hb) dX4_countViolations_25 (h.2 c1).2.2.1 (aw_callSNi nkX4_72 ckX6_contains (d := 1) (by decide) [.inl (g q (g (b + 7) a3.toNatClampNeg).toNatClampNeg), .inl (g (b + 8) a3.toNatClampNeg)] rfl rfl (Nat.le_of_ble_eq_true rfl) dX4_countViolations_26 rfl (Runs.fn ct_X6_contains (aw_if_eq 35 dX4_countViolations_29 (by decide) (fun c2 => (aw_iinc (a3 + 1) [some (.inr b), some (.inr q), some (.inl a2), some (.inl (a3 + 1))] dX4_countViolations_35 rfl (by rfl) (by decide) rfl (aw_goto 4 dX4_countViolations_38 (by decide) (aw_mask [true, true, true, true] rfl ((h.2 c1).2.2.2.1 c2))))) (fun c2 => (aw_iinc (a2 + 1) [some (.inr b), some (.inr q), some (.inl (a2 + 1)), some (.inl a3)] dX4_countViolations_32 rfl (by rfl) (by decide) rfl (aw_iinc (a3 + 1) [some (.inr b), some (.inr q), some (.inl (a2 + 1)), some (.inl (a3 + 1))] dX4_countViolations_35 rfl (by rfl) (by decide) rfl (aw_goto 4 dX4_countViolations_38 (by decide) (aw_mask [true, true, true, true] rfl ((h.2 c1).2.2.2.2 c2))))))))))))))))))))))))
theorem lp_X4_vio {Γ : Gam} {P : Int32 → Mem → Prop} {s : St} {g : Mem} {E : Rel} {q : Nat} (hq : aAt q = some (0, 10)) (h : CW 34 s g) (hE : ∀ a, a < s 0 → g q a = nI (msk (E a) (s 0))) (hP : P (nI (vio s E (s 62))) g) : ∀ n k, k + n = s 62 → AW Γ 2 iX4_countViolations P 4 [some (.inr 34), some (.inr q), some (.inl (nI (vio s E k))), some (.inl (nI k))] [] g := by
  intro n
  have hn := h.2.n
  have hnq := h.2.nq
  have e8 : g 34 8 = nI (s 62) := h.1.2.2.2.2.2.2.2.1
  induction n with
  | zero =>
    intro k hk
    refine sg_X4_countViolations_4 34 isSt_34 q hq _ _ ?_
    rw [e8]
    refine ⟨fun _ => ?_, fun c => absurd (nI_le (by omega) (by omega)) c⟩
    rw [show k = s 62 by omega]
    exact hP
  | succ n ih =>
    intro k hk
    obtain ⟨r1, r2⟩ := h.2.rq (k := k) (by omega)
    obtain ⟨m1, m2⟩ := h.1.2.2.2.2.2.2.2.2.1 k (by omega)
    refine sg_X4_countViolations_4 34 isSt_34 q hq _ _ ?_
    have hih := ih (k + 1) (by omega)
    rw [vio] at hih
    rw [e8, ix_nI (n := k) (by omega), m1, m2, ix_nI (n := s (63 + 2 * k)) (by omega), hE _ r1, has_msk hn r2, nI_1, nI_1]
    refine ⟨fun c => absurd c (nI_ge (by omega) (by omega)), fun _ => ⟨vp_nI (by omega) (by decide), vp_nI (by omega) (by decide), vp_nI (by omega) (by decide), fun c => ?_, fun c => ?_⟩⟩
    · rw [bi_eq0.mp c, if_neg (by decide)] at hih
      exact hih
    · rw [bi_ne0.mp c, if_pos rfl] at hih
      exact hih
theorem ct_X4_vio {Γ : Gam} {s : St} {g : Mem} {E : Rel} {q : Nat} (hq : aAt q = some (0, 10)) (h : CW 34 s g) (hE : ∀ a, a < s 0 → g q a = nI (msk (E a) (s 0))) : Runs Γ 2 yX4_countViolations iX4_countViolations [.inr 34, .inr q] g (fun r g' => r = nI (vio s E (s 62)) ∧ g' = g) :=
  Runs.intro (by decide) rfl (Nat.le_of_ble_eq_true rfl) (sg_X4_countViolations_0 34 isSt_34 q hq (lp_X4_vio hq h hE ⟨rfl, rfl⟩ (s 62) 0 (by omega)))
theorem sg_X6_violationCount_0 {Γ : Gam} {P : Int32 → Mem → Prop}  {g : Mem} (h : (Runs Γ 6 yX6_refreshAnalysis iX6_refreshAnalysis [.inr 0] g (fun r1 g1 => (Runs Γ 2 yX4_countViolations iX4_countViolations [.inr 34, .inr 13] g1 (fun r2 g2 => P r2 g2))))) : AW Γ 7 iX6_violationCount P 0 [some (.inr 0)] [] g :=
  (aw_aload_n dX6_violationCount_0 rfl (aw_callVv lkX6_123 ckX6_refreshAnalysis ca_0 rfl (d := 6) (by decide) [] rfl rfl (Nat.le_of_ble_eq_true rfl) dX6_violationCount_1 rfl (Runs.mono h (fun r1 g1 h1_ => (aw_aload_n dX6_violationCount_4 rfl (aw_getr 34 fkX6_19 fa_0_1 dX6_violationCount_5 (aw_aload_n dX6_violationCount_8 rfl (aw_getr 12 fkX6_43 fa_0_5 dX6_violationCount_9 (aw_getr 13 fkX6_126 fa_12_0 dX6_violationCount_12 (aw_callVi lkX6_165 ckX4_countViolations (cs_ isSt_34) rfl (d := 2) (by decide) [.inr 13] rfl rfl (Nat.le_of_ble_eq_true rfl) dX6_violationCount_15 rfl (Runs.mono h1_ (fun r2 g2 h2_ => (aw_iret rfl (vp_nar_int _) dX6_violationCount_18 h2_)))))))))))))
theorem oc_violationCount {Γ : Gam} {a : Ab} {g : Mem} (h : CI a g) (hw : WA a) : Runs Γ 7 yX6_violationCount iX6_violationCount [.inr 0] g (OpC (nI (vio a.1 (fnd a.1 0) (a.1 62)), a) g) := by
  refine Runs.intro (by decide) rfl (Nat.le_of_ble_eq_true rfl) (sg_X6_violationCount_0 ?_)
  refine (ct_X6_refresh (h.s hw) h.2.2.2).mono (fun _ g1 q => ?_)
  obtain ⟨q1, q2, q3, q4⟩ := q
  have h1 : CW 34 a.1 g1 := ⟨h.1.ext (fun k k1 k2 => q3 k (by omega)), hw.1⟩
  exact Runs.fn (ct_X4_vio rfl h1 q2.2.1.1) (OpC.an h q1 q2 (fun k hk => q3 k (by omega)))
