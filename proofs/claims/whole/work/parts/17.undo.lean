/-! permit, undo, restartRun. -/
def delQ (s : St) (i : Nat) : St := fun j => if j = 62 then s 62 - 1 else if 63 + 2 * i ≤ j ∧ j < 69 then s (j + 2) else s j
theorem delQ_n {s : St} {i : Nat} : delQ s i 62 = s 62 - 1 := by simp [delQ]
theorem delQ_out {s : St} {i j : Nat} (hj : j < 62 ∨ 71 ≤ j) : delQ s i j = s j := by
  unfold delQ; rw [if_neg (by omega), if_neg (by omega)]
theorem delQ_lo {s : St} {i j : Nat} (h : j ≠ 62) (hj : j < 63 + 2 * i) : delQ s i j = s j := by
  unfold delQ; rw [if_neg h, if_neg (by omega)]
theorem delQ_hi {s : St} {i j : Nat} (h : 63 + 2 * i ≤ j) (hj : j < 69) : delQ s i j = s (j + 2) := by
  unfold delQ; rw [if_neg (by omega), if_pos ⟨h, hj⟩]
theorem WF.delQ {s : St} (hw : WF s) {i : Nat} (hi : i < s 62) : WF (delQ s i) := by
  have hr := hw.nq
  refine hw.reqs (fun j hj => delQ_out hj) (by rw [delQ_n]; omega) (fun k hk => ?_)
  rw [delQ_n] at hk
  rcases Nat.lt_or_ge k i with q | q
  · rw [delQ_lo (by omega) (by omega), delQ_lo (by omega) (by omega)]; exact hw.rq (by omega)
  · rw [delQ_hi (by omega) (by omega), delQ_hi (by omega) (by omega)]
    have := hw.rq (k := k + 1) (by omega)
    rw [show 63 + 2 * (k + 1) = 63 + 2 * k + 2 by omega] at this
    exact this
theorem sg_X4_dropRequirement_0 {Γ : Gam} {P : Int32 → Mem → Prop} (b : Nat) (hb : isSt b) (a1 : Int32) {g : Mem} (h : AW Γ 1 iX4_dropRequirement P 2 [some (.inr b), none, some (.inl a1)] [] g) : AW Γ 1 iX4_dropRequirement P 0 [some (.inr b), some (.inl a1)] [] g :=
  (aw_iload_n dX4_dropRequirement_0 rfl (aw_istore_n [some (.inr b), some (.inl a1), some (.inl a1)] dX4_dropRequirement_1 (by decide) rfl (aw_mask [true, false, true] rfl h)))
theorem sg_X4_dropRequirement_2 {Γ : Gam} {P : Int32 → Mem → Prop} (b : Nat) (hb : isSt b) (a2 : Int32) {g : Mem} (h : (((g b 8) ≤ (a2 + 1) → P 0 (up g b 8 ((g b 8) - 1))) ∧ (¬ ((g b 8) ≤ (a2 + 1)) → (vp_in (a2 + 1) 4 ∧ (vp_in a2 4 ∧ (vp_in (a2 + 1) 4 ∧ (vp_in a2 4 ∧ AW Γ 1 iX4_dropRequirement P 2 [some (.inr b), none, some (.inl (a2 + 1))] [] (up (up g (b + 7) a2.toNatClampNeg (g (b + 7) (a2 + 1).toNatClampNeg)) (b + 8) a2.toNatClampNeg ((up g (b + 7) a2.toNatClampNeg (g (b + 7) (a2 + 1).toNatClampNeg)) (b + 8) (a2 + 1).toNatClampNeg))))))))) : AW Γ 1 iX4_dropRequirement P 2 [some (.inr b), none, some (.inl a2)] [] g :=
  (aw_iload_n dX4_dropRequirement_2 rfl (aw_iconst 1 dX4_dropRequirement_3 (by decide) (aw_iadd dX4_dropRequirement_4 (aw_aload_n dX4_dropRequirement_5 rfl (aw_geti fkX4_37 (fs_8 hb) dX4_dropRequirement_6 (aw_icmp_ge 46 dX4_dropRequirement_9 (by decide) (fun c1 => (aw_aload_n dX4_dropRequirement_46 rfl (aw_dup dX4_dropRequirement_47 (aw_geti fkX4_37 (fs_8 hb) dX4_dropRequirement_48 (aw_iconst 1 dX4_dropRequirement_51 (by decide) (aw_isub dX4_dropRequirement_52 (aw_putf fpX4_37 (fs_8 hb) (vp_nar_int _) rfl dX4_dropRequirement_53 (aw_vret rfl dX4_dropRequirement_56 (h.1 c1))))))))) (fun c1 => (aw_aload_n dX4_dropRequirement_12 rfl (aw_getr (b + 7) fkX4_40 (fs_9 hb) dX4_dropRequirement_13 (aw_iload_n dX4_dropRequirement_16 rfl (aw_aload_n dX4_dropRequirement_17 rfl (aw_getr (b + 7) fkX4_40 (fs_9 hb) dX4_dropRequirement_18 (aw_iload_n dX4_dropRequirement_21 rfl (aw_iconst 1 dX4_dropRequirement_22 (by decide) (aw_iadd dX4_dropRequirement_23 (aw_iald (as_7 hb) dX4_dropRequirement_24 (h.2 c1).1 (aw_iast (as_7 hb) dX4_dropRequirement_25 (h.2 c1).2.1 (aw_aload_n dX4_dropRequirement_26 rfl (aw_getr (b + 8) fkX4_43 (fs_10 hb) dX4_dropRequirement_27 (aw_iload_n dX4_dropRequirement_30 rfl (aw_aload_n dX4_dropRequirement_31 rfl (aw_getr (b + 8) fkX4_43 (fs_10 hb) dX4_dropRequirement_32 (aw_iload_n dX4_dropRequirement_35 rfl (aw_iconst 1 dX4_dropRequirement_36 (by decide) (aw_iadd dX4_dropRequirement_37 (aw_iald (as_8 hb) dX4_dropRequirement_38 (h.2 c1).2.2.1 (aw_iast (as_8 hb) dX4_dropRequirement_39 (h.2 c1).2.2.2.1 (aw_iinc (a2 + 1) [some (.inr b), none, some (.inl (a2 + 1))] dX4_dropRequirement_40 rfl (by rfl) (by decide) rfl (aw_goto 2 dX4_dropRequirement_43 (by decide) (aw_mask [true, false, true] rfl (h.2 c1).2.2.2.2))))))))))))))))))))))))))))))
theorem lp_X4_drop {Γ : Gam} {P : Int32 → Mem → Prop} {s : St} {g : Mem} (hc : CW 34 s g) {i0 : Nat} (hi0 : i0 < s 62) (hP : ∀ g', (∀ k, k ≠ 41 → k ≠ 42 → g' k = g k) → (∀ k, k < s 62 - 1 → g' 41 k = nI (delQ s i0 (63 + 2 * k)) ∧ g' 42 k = nI (delQ s i0 (63 + 2 * k + 1))) → P 0 (up g' 34 8 (nI (s 62 - 1)))) : ∀ n i g', i + n + 1 = s 62 → i0 ≤ i → (∀ k, k ≠ 41 → k ≠ 42 → g' k = g k) → (∀ k, k < i → g' 41 k = nI (delQ s i0 (63 + 2 * k)) ∧ g' 42 k = nI (delQ s i0 (63 + 2 * k + 1))) → (∀ k, i ≤ k → k < s 62 → g' 41 k = nI (s (63 + 2 * k)) ∧ g' 42 k = nI (s (63 + 2 * k + 1))) → AW Γ 1 iX4_dropRequirement P 2 [some (.inr 34), none, some (.inl (nI i))] [] g' := by
  intro n
  have hr := hc.2.nq
  induction n with
  | zero =>
    intro i g' hi hle e1 e2 e3
    refine sg_X4_dropRequirement_2 34 isSt_34 _ ?_
    rw [e1 34 (by decide) (by decide), hc.1.2.2.2.2.2.2.2.1, nI_1]
    refine ⟨fun _ => ?_, fun c => absurd (nI_le (by omega) (by omega)) c⟩
    have e : nI (s 62) - 1 = nI (s 62 - 1) := by
      have := nI_pred (s 62 - 1)
      rw [show s 62 - 1 + 1 = s 62 by omega] at this
      exact this
    rw [e]
    exact hP g' e1 (fun k hk => e2 k (by omega))
  | succ n ih =>
    intro i g' hi hle e1 e2 e3
    refine sg_X4_dropRequirement_2 34 isSt_34 _ ?_
    obtain ⟨f1, f2⟩ := e3 (i + 1) (by omega) (by omega)
    rw [e1 34 (by decide) (by decide), hc.1.2.2.2.2.2.2.2.1, nI_1, ix_nI (by omega), ix_nI (by omega), up_ne (show 34 + 8 ≠ 34 + 7 by decide)]
    show _ ∧ (_ → _ ∧ _ ∧ _ ∧ _ ∧ AW Γ 1 iX4_dropRequirement P 2 [some (.inr 34), none, some (.inl (nI (i + 1)))] [] (up (up g' 41 i (g' 41 (i + 1))) 42 i (g' 42 (i + 1))))
    rw [f1, f2]
    refine ⟨fun c => absurd c (nI_ge (by omega) (by omega)), fun _ => ⟨vp_nI (by omega) (by decide), vp_nI (by omega) (by decide), vp_nI (by omega) (by decide), vp_nI (by omega) (by decide), ih (i + 1) _ (by omega) (by omega) (fun k k1 k2 => by rw [up_ne k2, up_ne k1, e1 k k1 k2]) (fun k hk => ?_) (fun k hk hk2 => ?_)⟩⟩
    · rcases Nat.lt_or_ge k i with q | q
      · rw [up_ne (show 41 ≠ 42 by decide), up_nx (by omega), up_nx (by omega), up_ne (by decide)]; exact e2 k q
      · have e : k = i := by omega
        subst e
        rw [up_ne (show 41 ≠ 42 by decide), up_at, up_at, delQ_hi (by omega) (by omega), delQ_hi (by omega) (by omega), show 63 + 2 * (k + 1) = 63 + 2 * k + 2 by omega]
        exact ⟨rfl, rfl⟩
    · rw [up_ne (show 41 ≠ 42 by decide), up_nx (by omega), up_nx (by omega), up_ne (by decide)]; exact e3 k (by omega) hk2
theorem ct_X4_dropRequirement {Γ : Gam} {s : St} {g : Mem} {i : Nat} (hc : CW 34 s g) (hi : i < s 62) : Runs Γ 1 yX4_dropRequirement iX4_dropRequirement [.inr 34, .inl (nI i)] g (fun _ g' => CS 34 (delQ s i) g' ∧ ∀ k, k ≠ 34 → k ≠ 41 → k ≠ 42 → g' k = g k) := by
  refine Runs.intro (by decide) rfl (Nat.le_of_ble_eq_true rfl) (sg_X4_dropRequirement_0 34 isSt_34 _ (lp_X4_drop hc hi (fun g' e1 e2 => ⟨?_, fun k k1 k2 k3 => by rw [up_ne k1, e1 k k2 k3]⟩) (s 62 - i - 1) i g (by omega) (Nat.le_refl _) (fun _ _ _ => rfl) (fun k hk => ?_) (fun k _ hk => hc.1.2.2.2.2.2.2.2.2.1 k hk)))
  · rw [delQ_lo (by omega) (by omega), delQ_lo (by omega) (by omega)]
    exact hc.1.2.2.2.2.2.2.2.2.1 k (by omega)
  · refine CS.reqs hc.2 hc.1 (fun j hj => delQ_out hj) (fun k k1 k2 k3 => by rw [up_ne k1, e1 k k2 k3]) (fun j hj => by rw [up_nx hj, e1 34 (by decide) (by decide)]) (by rw [up_at, delQ_n]) (fun k hk => ?_)
    rw [delQ_n] at hk
    rw [up_ne (by decide), up_ne (by decide)]
    exact e2 k hk
def sp_permit (a : Ab) (x y : Int32) : Int32 × Ab := if inR (a.1 0) x && inR (a.1 0) y then (if ff (reqP a.1 x y) 0 (a.1 62) < a.1 62 then (nI (a.1 62 - 1), (delQ a.1 (ff (reqP a.1 x y) 0 (a.1 62)), push a.2.1 a.1, a.2.2.1, a.2.2.2)) else (-2, a)) else (-1, a)
theorem sg_X6_permit_0 {Γ : Gam} {P : Int32 → Mem → Prop}  (s : St) (a1 a2 : Int32) {g : Mem} (h : (CW 34 s g ∧ ((¬ (bi (inR (s 0) a1 && inR (s 0) a2)) = 0 → (CW 34 s g ∧ ((¬ (fI (-1) (reqP s a1 a2) (s 62)) = (-1) → (Runs Γ 3 yX6_saveState iX6_saveState [.inr 0] g (fun r1 g1 => (Runs Γ 1 yX4_dropRequirement iX4_dropRequirement [.inr 34, .inl (fI (-1) (reqP s a1 a2) (s 62))] g1 (fun r2 g2 => P (g2 34 8) g2))))) ∧ ((fI (-1) (reqP s a1 a2) (s 62)) = (-1) → P (-2) g)))) ∧ ((bi (inR (s 0) a1 && inR (s 0) a2)) = 0 → P (-1) g)))) : AW Γ 4 iX6_permit P 0 [some (.inr 0), some (.inl a1), some (.inl a2)] [] g :=
  (aw_aload_n dX6_permit_0 rfl (aw_getr 34 fkX6_19 fa_0_1 dX6_permit_1 (aw_iload_n dX6_permit_4 rfl (aw_iload_n dX6_permit_5 rfl (aw_callVi lkX6_120 ckX4_hasBoth (cs_ isSt_34) rfl (d := 2) (by decide) [.inl a1, .inl a2] rfl rfl (Nat.le_of_ble_eq_true rfl) dX6_permit_6 rfl (Runs.fn ((ct_X4_hasBoth isSt_34) h.1) (aw_if_ne 14 dX6_permit_9 (by decide) (fun c1 => (aw_aload_n dX6_permit_14 rfl (aw_getr 34 fkX6_19 fa_0_1 dX6_permit_15 (aw_iload_n dX6_permit_18 rfl (aw_iload_n dX6_permit_19 rfl (aw_callVi lkX6_153 ckX4_findRequirement (cs_ isSt_34) rfl (d := 1) (by decide) [.inl a1, .inl a2] rfl rfl (Nat.le_of_ble_eq_true rfl) dX6_permit_20 rfl (Runs.fn ((ct_X4_findRequirement isSt_34) (h.2.1 c1).1) (aw_istore_n [some (.inr 0), some (.inl a1), some (.inl a2), some (.inl (fI (-1) (reqP s a1 a2) (s 62)))] dX6_permit_23 (by decide) rfl (aw_iload_n dX6_permit_24 rfl (aw_iconst (-1) dX6_permit_25 (by decide) (aw_icmp_ne 32 dX6_permit_26 (by decide) (fun c2 => (aw_aload_n dX6_permit_32 rfl (aw_callVv lkX6_73 ckX6_saveState ca_0 rfl (d := 3) (by decide) [] rfl rfl (Nat.le_of_ble_eq_true rfl) dX6_permit_33 rfl (Runs.mono ((h.2.1 c1).2.1 c2) (fun r1 g1 h1_ => (aw_aload_n dX6_permit_36 rfl (aw_getr 34 fkX6_19 fa_0_1 dX6_permit_37 (aw_iload_n dX6_permit_40 rfl (aw_callVv lkX6_162 ckX4_dropRequirement (cs_ isSt_34) rfl (d := 1) (by decide) [.inl (fI (-1) (reqP s a1 a2) (s 62))] rfl rfl (Nat.le_of_ble_eq_true rfl) dX6_permit_41 rfl (Runs.mono h1_ (fun r2 g2 h2_ => (aw_aload_n dX6_permit_44 rfl (aw_getr 34 fkX6_19 fa_0_1 dX6_permit_45 (aw_geti fkX6_156 (fs_8 isSt_34) dX6_permit_48 (aw_iret rfl (vp_nar_int _) dX6_permit_51 h2_))))))))))))))) (fun c2 => (aw_bipush (-2) dX6_permit_29 (by decide) (aw_iret rfl (vp_nar_int _) dX6_permit_31 ((h.2.1 c1).2.2 c2))))))))))))))) (fun c1 => (aw_iconst (-1) dX6_permit_12 (by decide) (aw_iret rfl (vp_nar_int _) dX6_permit_13 (h.2.2 c1)))))))))))
theorem oc_permit {Γ : Gam} {a : Ab} {g : Mem} {x y : Int32} (h : CI a g) (hw : WA a) : Runs Γ 4 yX6_permit iX6_permit [.inr 0, .inl x, .inl y] g (OpC (sp_permit a x y) g) := by
  have hr := hw.1.nq
  unfold sp_permit
  refine Runs.intro (by decide) rfl (Nat.le_of_ble_eq_true rfl) (sg_X6_permit_0 a.1 x y ⟨h.s hw, fun c1 => ⟨h.s hw, ?_⟩, fun c1 => ?_⟩)
  · rw [bi_ne0] at c1
    rw [if_pos c1, fI_neg (by omega) (by decide)]
    refine ⟨fun c3 => (ct_X6_saveState h hw).mono (fun r g1 q => ?_), fun c3 => ?_⟩
    · obtain ⟨q1, q2, q3⟩ := q
      have c4 : ff (reqP a.1 x y) 0 (a.1 62) < a.1 62 := Decidable.not_not.mp c3
      rw [if_pos c4, fI_at rfl c4]
      have hc1 : CW 34 a.1 g1 := ⟨h.1.ext (fun k k1 k2 => q3 k (by omega) (by omega) (by omega)), hw.1⟩
      refine (ct_X4_dropRequirement (Γ := Γ) hc1 c4).mono (fun r g2 z => ?_)
      rw [z.1.2.2.2.2.2.2.2.1, delQ_n]
      exact h.kept q1 q2 q3 z.1 (fun k hk => z.2 k (by omega) (by omega) (by omega))
    · rw [if_neg c3]; exact OpC.same h
  · rw [bi_eq0] at c1; rw [if_neg (by simp [c1])]; exact OpC.same h
theorem sg_X7_permit_0 {Γ : Gam} {P : Int32 → Mem → Prop}  (s : St) (a1 a2 : Int32) {g : Mem} (h : (MW 27 s (up g 26 0 0) ∧ ((¬ (bi (inR (s 0) a1 && inR (s 0) a2)) = 0 → (MW 27 s (up g 26 0 0) ∧ ((¬ (fI (-9) (reqP s a1 a2) (s 62)) = (-9) → (Runs Γ 1 yX7_save iX7_save [.inr 26] (up g 26 0 0) (fun r1 g1 => AW Γ 4 iX7_permit P 44 [some (.inr 26), none, none, none, some (.inl (63 + (2 * (fI (-9) (reqP s a1 a2) (s 62)))))] [] g1))) ∧ ((fI (-9) (reqP s a1 a2) (s 62)) = (-9) → P (-2) (up g 26 0 0))))) ∧ ((bi (inR (s 0) a1 && inR (s 0) a2)) = 0 → P (-1) (up g 26 0 0))))) : AW Γ 4 iX7_permit P 0 [some (.inr 26), some (.inl a1), some (.inl a2)] [] g :=
  (aw_aload_n dX7_permit_0 rfl (aw_iconst 0 dX7_permit_1 (by decide) (aw_putf fpX7_32 fa_26_0 (vp_nar_int _) rfl dX7_permit_2 (aw_aload_n dX7_permit_5 rfl (aw_iload_n dX7_permit_6 rfl (aw_iload_n dX7_permit_7 rfl (aw_callVi lkX7_166 ckX7_areObjects ca_26 rfl (d := 3) (by decide) [.inl a1, .inl a2] rfl rfl (Nat.le_of_ble_eq_true rfl) dX7_permit_8 rfl (Runs.fn (ct_X7_areObjects h.1) (aw_if_ne 16 dX7_permit_11 (by decide) (fun c1 => (aw_aload_n dX7_permit_16 rfl (aw_iload_n dX7_permit_17 rfl (aw_iload_n dX7_permit_18 rfl (aw_callVi lkX7_188 ckX7_requirementOf ca_26 rfl (d := 1) (by decide) [.inl a1, .inl a2] rfl rfl (Nat.le_of_ble_eq_true rfl) dX7_permit_19 rfl (Runs.fn (ct_X7_requirementOf (h.2.1 c1).1) (aw_istore_n [some (.inr 26), some (.inl a1), some (.inl a2), some (.inl (fI (-9) (reqP s a1 a2) (s 62)))] dX7_permit_22 (by decide) rfl (aw_iload_n dX7_permit_23 rfl (aw_bipush (-9) dX7_permit_24 (by decide) (aw_icmp_ne 32 dX7_permit_26 (by decide) (fun c2 => (aw_aload_n dX7_permit_32 rfl (aw_callVv lkX7_99 ckX7_save ca_26 rfl (d := 1) (by decide) [] rfl rfl (Nat.le_of_ble_eq_true rfl) dX7_permit_33 rfl (Runs.mono ((h.2.1 c1).2.1 c2) (fun r1 g1 h1_ => (aw_bipush 63 dX7_permit_36 (by decide) (aw_iconst 2 dX7_permit_38 (by decide) (aw_iload_n dX7_permit_39 rfl (aw_imul dX7_permit_40 (aw_iadd dX7_permit_41 (aw_istore [some (.inr 26), some (.inl a1), some (.inl a2), some (.inl (fI (-9) (reqP s a1 a2) (s 62))), some (.inl (63 + (2 * (fI (-9) (reqP s a1 a2) (s 62)))))] dX7_permit_42 (by decide) rfl (aw_mask [true, false, false, false, true] rfl h1_)))))))))))) (fun c2 => (aw_bipush (-2) dX7_permit_29 (by decide) (aw_iret rfl (vp_nar_int _) dX7_permit_31 ((h.2.1 c1).2.2 c2)))))))))))))) (fun c1 => (aw_iconst (-1) dX7_permit_14 (by decide) (aw_iret rfl (vp_nar_int _) dX7_permit_15 (h.2.2 c1)))))))))))))
theorem sg_X7_permit_44 {Γ : Gam} {P : Int32 → Mem → Prop}  (a4 : Int32) {g : Mem} (h : ((71 ≤ (a4 + 2) → P ((g 27 62) - 1) (up g 27 62 ((g 27 62) - 1))) ∧ (¬ (71 ≤ (a4 + 2)) → (vp_in (a4 + 2) 81 ∧ (vp_in a4 81 ∧ AW Γ 4 iX7_permit P 44 [some (.inr 26), none, none, none, some (.inl (a4 + 1))] [] (up g 27 a4.toNatClampNeg (g 27 (a4 + 2).toNatClampNeg))))))) : AW Γ 4 iX7_permit P 44 [some (.inr 26), none, none, none, some (.inl a4)] [] g :=
  (aw_iload dX7_permit_44 rfl (aw_iconst 2 dX7_permit_46 (by decide) (aw_iadd dX7_permit_47 (aw_bipush 71 dX7_permit_48 (by decide) (aw_icmp_ge 75 dX7_permit_50 (by decide) (fun c1 => (aw_aload_n dX7_permit_75 rfl (aw_getr 27 fkX7_7 fa_26_1 dX7_permit_76 (aw_bipush 62 dX7_permit_79 (by decide) (aw_dup2 dX7_permit_81 (aw_iald aa_27 dX7_permit_82 (vp_lit 62 (by decide) (by decide)) (aw_iconst 1 dX7_permit_83 (by decide) (aw_isub dX7_permit_84 (aw_iast aa_27 dX7_permit_85 (vp_lit 62 (by decide) (by decide)) (aw_aload_n dX7_permit_86 rfl (aw_getr 27 fkX7_7 fa_26_1 dX7_permit_87 (aw_bipush 62 dX7_permit_90 (by decide) (aw_iald aa_27 dX7_permit_92 (vp_lit 62 (by decide) (by decide)) (aw_iret rfl (vp_nar_int _) dX7_permit_93 (h.1 c1))))))))))))))) (fun c1 => (aw_aload_n dX7_permit_53 rfl (aw_getr 27 fkX7_7 fa_26_1 dX7_permit_54 (aw_iload dX7_permit_57 rfl (aw_aload_n dX7_permit_59 rfl (aw_getr 27 fkX7_7 fa_26_1 dX7_permit_60 (aw_iload dX7_permit_63 rfl (aw_iconst 2 dX7_permit_65 (by decide) (aw_iadd dX7_permit_66 (aw_iald aa_27 dX7_permit_67 (h.2 c1).1 (aw_iast aa_27 dX7_permit_68 (h.2 c1).2.1 (aw_iinc (a4 + 1) [some (.inr 26), none, none, none, some (.inl (a4 + 1))] dX7_permit_69 rfl (by rfl) (by decide) rfl (aw_goto 44 dX7_permit_72 (by decide) (aw_mask [true, false, false, false, true] rfl (h.2 c1).2.2)))))))))))))))))))
theorem lp_X7_permit {Γ : Gam} {P : Int32 → Mem → Prop} {s : St} {g : Mem} (hm : MA 27 s g) {i0 : Nat} (hr : 1 ≤ s 62 ∧ s 62 ≤ 4) (hP : ∀ g', (∀ k, k ≠ 27 → g' k = g k) → MA 27 (delQ s i0) g' → P (nI (s 62 - 1)) g') : ∀ n k g', k + n = 69 → 63 + 2 * i0 ≤ k → (∀ k, k ≠ 27 → g' k = g k) → (∀ j, j < 63 + 2 * i0 → g' 27 j = nI (s j)) → (∀ j, 63 + 2 * i0 ≤ j → j < k → g' 27 j = nI (s (j + 2))) → (∀ j, k ≤ j → j < 81 → g' 27 j = nI (s j)) → AW Γ 4 iX7_permit P 44 [some (.inr 26), none, none, none, some (.inl (nI k))] [] g' := by
  intro n
  induction n with
  | zero =>
    intro k g' hk hle e1 e2 e3 e4
    have e : k = 69 := by omega
    subst e
    refine sg_X7_permit_44 _ ?_
    have ep : nI (s 62) - 1 = nI (s 62 - 1) := by
      have := nI_pred (s 62 - 1)
      rw [show s 62 - 1 + 1 = s 62 by omega] at this
      exact this
    rw [n2, e2 62 (by omega), ep]
    refine ⟨fun _ => hP _ (fun k hk => by rw [up_ne hk, e1 k hk]) (fun j hj => ?_), fun c => absurd (nI_le (Nat.le_refl 71) (by decide)) c⟩
    by_cases h62 : j = 62
    · subst h62
      rw [up_at, delQ_n]
    · rw [up_nx h62]
      rcases Nat.lt_or_ge j (63 + 2 * i0) with q | q
      · rw [delQ_lo h62 q]; exact e2 j q
      · rcases Nat.lt_or_ge j 69 with q2 | q2
        · rw [delQ_hi q q2]; exact e3 j q q2
        · unfold delQ
          rw [if_neg h62, if_neg (by omega)]; exact e4 j q2 hj
  | succ n ih =>
    intro k g' hk hle e1 e2 e3 e4
    refine sg_X7_permit_44 _ ?_
    rw [n2, nI_1, ix_nI (by omega), ix_nI (by omega), e4 (k + 2) (by omega) (by omega)]
    refine ⟨fun c => absurd c (nI_ge (show k + 2 < 71 by omega) (by decide)), fun _ => ⟨vp_nI (by omega) (by decide), vp_nI (by omega) (by decide), ih (k + 1) _ (by omega) (by omega) (fun j hj => by rw [up_ne hj, e1 j hj]) (fun j hj => by rw [up_nx (by omega)]; exact e2 j hj) (fun j hj hj2 => ?_) (fun j hj hj2 => by rw [up_nx (by omega)]; exact e4 j (by omega) hj2)⟩⟩
    rcases Nat.lt_or_ge j k with q | q
    · rw [up_nx (by omega)]; exact e3 j hj q
    · rw [show j = k by omega, up_at]
theorem om_permit {Γ : Gam} {a : Ab} {g : Mem} {x y : Int32} (h : MI a g) (hw : WA a) : Runs Γ 4 yX7_permit iX7_permit [.inr 26, .inl x, .inl y] g (OpM (sp_permit a x y) g) := by
  have hr := hw.1.nq
  unfold sp_permit
  refine Runs.intro (by decide) rfl (Nat.le_of_ble_eq_true rfl) (sg_X7_permit_0 a.1 x y ⟨h.thr.s hw, fun c1 => ⟨h.thr.s hw, ?_⟩, fun c1 => ?_⟩)
  · rw [bi_ne0] at c1
    rw [if_pos c1, fI_neg (by omega) (by decide)]
    refine ⟨fun c3 => (ct_X7_save' h.thr).mono (fun r g1 q => ?_), fun c3 => ?_⟩
    · have c4 : ff (reqP a.1 x y) 0 (a.1 62) < a.1 62 := Decidable.not_not.mp c3
      have hm : MA 27 a.1 g1 := q.1.1
      rw [if_pos c4, fI_at rfl c4, n63]
      refine lp_X7_permit hm (i0 := ff (reqP a.1 x y) 0 (a.1 62)) ⟨by omega, hr⟩ (fun g2 f1 f2 => ⟨rfl, q.1.row f2 f1, ((frM_thr g).trans q.2).trans (frM_row f1)⟩) (69 - (63 + 2 * ff (reqP a.1 x y) 0 (a.1 62))) _ g1 (by omega) (Nat.le_refl _) (fun _ _ => rfl) (fun j hj => hm j (by omega)) (fun j h1 h2 => by omega) (fun j _ hj => hm j hj)
    · rw [if_neg c3]; exact OpM.same h
  · rw [bi_eq0] at c1; rw [if_neg (by simp [c1])]; exact OpM.same h
theorem wa_permit {a : Ab} {x y : Int32} (hw : WA a) : WA (sp_permit a x y).2 := by
  unfold sp_permit
  split
  · split
    · rename_i c
      exact hw.psh (hw.1.delQ c)
    · exact hw
  · exact hw
/-! undo -/
def sp_undo (a : Ab) : Int32 × Ab := match a.2.1.getLast? with
  | none => (-2, a)
  | some t => (nI (a.2.1.length - 1), (t, a.2.1.dropLast, a.2.2.1, a.2.2.2))
theorem last_split {hs : List St} {t : St} (h : hs.getLast? = some t) : hs = hs.dropLast ++ [t] := by
  obtain ⟨ys, rfl⟩ := List.getLast?_eq_some_iff.mp h
  simp
theorem sg_X6_undo_0 {Γ : Gam} {P : Int32 → Mem → Prop}  {g : Mem} (h : ((0 < (g 4 2) → (Runs Γ 2 yX2_restoreInto iX2_restoreInto [.inr 4, .inr 34] g (fun r1 g1 => P (g1 4 2) (up g1 0 8 0)))) ∧ (¬ (0 < (g 4 2)) → P (-2) g))) : AW Γ 3 iX6_undo P 0 [some (.inr 0)] [] g :=
  (aw_aload_n dX6_undo_0 rfl (aw_getr 4 fkX6_29 fa_0_3 dX6_undo_1 (aw_geti fkX6_208 fa_4_2 dX6_undo_4 (aw_if_gt 13 dX6_undo_7 (by decide) (fun c1 => (aw_aload_n dX6_undo_13 rfl (aw_getr 4 fkX6_29 fa_0_3 dX6_undo_14 (aw_aload_n dX6_undo_17 rfl (aw_getr 34 fkX6_19 fa_0_1 dX6_undo_18 (aw_callVv lkX6_211 ckX2_restoreInto ca_4 rfl (d := 2) (by decide) [.inr 34] rfl rfl (Nat.le_of_ble_eq_true rfl) dX6_undo_21 rfl (Runs.mono (h.1 c1) (fun r1 g1 h1_ => (aw_aload_n dX6_undo_24 rfl (aw_iconst 0 dX6_undo_25 (by decide) (aw_putf fpX6_57 fa_0_8 (by decide) (by decide) dX6_undo_26 (aw_aload_n dX6_undo_29 rfl (aw_getr 4 fkX6_29 fa_0_3 dX6_undo_30 (aw_geti fkX6_208 fa_4_2 dX6_undo_33 (aw_iret rfl (vp_nar_int _) dX6_undo_36 h1_))))))))))))))) (fun c1 => (aw_bipush (-2) dX6_undo_10 (by decide) (aw_iret rfl (vp_nar_int _) dX6_undo_12 (h.2 c1))))))))
theorem oc_undo {Γ : Gam} {a : Ab} {g : Mem} (h : CI a g) (hw : WA a) : Runs Γ 3 yX6_undo iX6_undo [.inr 0] g (OpC (sp_undo a) g) := by
  obtain ⟨s, hs, L, c⟩ := a
  obtain ⟨h1, h2, h3, h4⟩ := CI.iff.mp h
  obtain ⟨w1, w2, w3, w4, w5⟩ := WA.iff.mp hw
  unfold sp_undo
  dsimp only
  refine Runs.intro (by decide) rfl (Nat.le_of_ble_eq_true rfl) (sg_X6_undo_0 ?_)
  rw [h2.2.1]
  cases hl : hs.getLast? with
  | none =>
    have e : hs = [] := List.getLast?_eq_none_iff.mp hl
    subst e
    exact ⟨fun c => absurd c (by decide), fun _ => OpC.same h⟩
  | some t =>
    have e := last_split hl
    have ht : WF t := w2 t (by rw [e]; simp)
    have hlen : hs.length = hs.dropLast.length + 1 := by
      have h9 := congrArg List.length e
      rw [List.length_append] at h9
      exact h9
    refine ⟨fun _ => ?_, fun c => absurd (nI_lt (a := 0) (by omega) (by omega)) c⟩
    have h2' : HC (hs.dropLast ++ [t]) g := by rw [← e]; exact h2
    refine (ct_X2_restoreInto h2' ht).mono (fun r g1 q => ?_)
    obtain ⟨q1, q2, q3⟩ := q
    refine ⟨?_, CI.iff.mpr ⟨q2.ext (fun k k1 k2 => up_ne (by omega)), q1.ext (up_ne (by decide)) (fun k hk => up_ne (by omega)), ?_, Or.inl (up_at _ _ _ _)⟩, fun k k1 k2 => by rw [up_ne (by omega), q3 k (by omega) (by omega)]⟩
    · rw [q1.2.1]
      show _ = nI (hs.length - 1)
      rw [hlen]; rfl
    · unfold TC at h3 ⊢
      rw [up_ne (by decide), up_ne (by decide), q3 1 (by decide) (by decide), q3 2 (by decide) (by decide)]
      exact h3
theorem sg_X7_undo_0 {Γ : Gam} {P : Int32 → Mem → Prop}  {g : Mem} (h : ((¬ (g 26 4) = 0 → AW Γ 1 iX7_undo P 27 [some (.inr 26), some (.inl 0)] [] (up (up g 26 0 0) 26 4 ((g 26 4) - 1))) ∧ ((g 26 4) = 0 → P (-2) (up g 26 0 0)))) : AW Γ 1 iX7_undo P 0 [some (.inr 26)] [] g :=
  (aw_aload_n dX7_undo_0 rfl (aw_iconst 0 dX7_undo_1 (by decide) (aw_putf fpX7_32 fa_26_0 (vp_nar_int _) rfl dX7_undo_2 (aw_aload_n dX7_undo_5 rfl (aw_geti fkX7_105 fa_26_4 dX7_undo_6 (aw_if_ne 15 dX7_undo_9 (by decide) (fun c1 => (aw_aload_n dX7_undo_15 rfl (aw_dup dX7_undo_16 (aw_geti fkX7_105 fa_26_4 dX7_undo_17 (aw_iconst 1 dX7_undo_20 (by decide) (aw_isub dX7_undo_21 (aw_putf fpX7_105 fa_26_4 (vp_nar_int _) rfl dX7_undo_22 (aw_iconst 0 dX7_undo_25 (by decide) (aw_istore_n [some (.inr 26), some (.inl 0)] dX7_undo_26 (by decide) rfl (aw_mask [true, true] rfl (h.1 c1))))))))))) (fun c1 => (aw_bipush (-2) dX7_undo_12 (by decide) (aw_iret rfl (vp_nar_int _) dX7_undo_14 (h.2 c1))))))))))
theorem sg_X7_undo_27 {Γ : Gam} {P : Int32 → Mem → Prop}  (a1 : Int32) {g : Mem} (h : ((81 ≤ a1 → P (g 26 4) g) ∧ (¬ (81 ≤ a1) → (vp_in ((81 * (g 26 4)) + a1) 405 ∧ (vp_in a1 81 ∧ AW Γ 1 iX7_undo P 27 [some (.inr 26), some (.inl (a1 + 1))] [] (up g 27 a1.toNatClampNeg (g 29 ((81 * (g 26 4)) + a1).toNatClampNeg))))))) : AW Γ 1 iX7_undo P 27 [some (.inr 26), some (.inl a1)] [] g :=
  (aw_iload_n dX7_undo_27 rfl (aw_bipush 81 dX7_undo_28 (by decide) (aw_icmp_ge 59 dX7_undo_30 (by decide) (fun c1 => (aw_aload_n dX7_undo_59 rfl (aw_geti fkX7_105 fa_26_4 dX7_undo_60 (aw_iret rfl (vp_nar_int _) dX7_undo_63 (h.1 c1))))) (fun c1 => (aw_aload_n dX7_undo_33 rfl (aw_getr 27 fkX7_7 fa_26_1 dX7_undo_34 (aw_iload_n dX7_undo_37 rfl (aw_aload_n dX7_undo_38 rfl (aw_getr 29 fkX7_16 fa_26_3 dX7_undo_39 (aw_bipush 81 dX7_undo_42 (by decide) (aw_aload_n dX7_undo_44 rfl (aw_geti fkX7_105 fa_26_4 dX7_undo_45 (aw_imul dX7_undo_48 (aw_iload_n dX7_undo_49 rfl (aw_iadd dX7_undo_50 (aw_iald aa_29 dX7_undo_51 (h.2 c1).1 (aw_iast aa_27 dX7_undo_52 (h.2 c1).2.1 (aw_iinc (a1 + 1) [some (.inr 26), some (.inl (a1 + 1))] dX7_undo_53 rfl (by rfl) (by decide) rfl (aw_goto 27 dX7_undo_56 (by decide) (aw_mask [true, true] rfl (h.2 c1).2.2))))))))))))))))))))
theorem lp_X7_undo {Γ : Gam} {P : Int32 → Mem → Prop} {t : St} {g : Mem} {d : Nat} (hd : d ≤ 4) (hg : g 26 4 = nI d) (hv : ∀ j, j < 81 → g 29 (81 * d + j) = nI (t j)) (hP : ∀ g', (∀ k, k ≠ 27 → g' k = g k) → MA 27 t g' → P (nI d) g') : ∀ n i g', i + n = 81 → (∀ k, k ≠ 27 → g' k = g k) → (∀ j, j < i → g' 27 j = nI (t j)) → AW Γ 1 iX7_undo P 27 [some (.inr 26), some (.inl (nI i))] [] g' := by
  intro n
  induction n with
  | zero =>
    intro i g' hi h1 h2
    have e : i = 81 := by omega
    subst e
    refine sg_X7_undo_27 _ ⟨fun _ => ?_, fun c => absurd (nI_le (Nat.le_refl 81) (by decide)) c⟩
    rw [h1 26 (by decide), hg]
    exact hP g' h1 h2
  | succ n ih =>
    intro i g' hi h1 h2
    refine sg_X7_undo_27 _ ⟨fun c => absurd c (nI_ge (show i < 81 by omega) (by decide)), fun _ => ?_⟩
    rw [h1 26 (by decide), hg, n81, nI_1, ix_nI (by omega), ix_nI (by omega), h1 29 (by decide), hv i (by omega)]
    refine ⟨vp_nI (by omega) (by decide), vp_nI (by omega) (by decide), ih (i + 1) _ (by omega) (fun k hk => by rw [up_ne hk, h1 k hk]) (fun j hj => ?_)⟩
    rcases Nat.lt_or_ge j i with q | q
    · rw [up_nx (by omega)]; exact h2 j q
    · rw [show j = i by omega, up_at]
theorem om_undo {Γ : Gam} {a : Ab} {g : Mem} (h : MI a g) : Runs Γ 1 yX7_undo iX7_undo [.inr 26] g (OpM (sp_undo a) g) := by
  obtain ⟨s, hs, L, c⟩ := a
  obtain ⟨h1, h2, h3⟩ := MI.iff.mp h
  unfold sp_undo
  dsimp only
  refine Runs.intro (by decide) rfl (Nat.le_of_ble_eq_true rfl) (sg_X7_undo_0 ?_)
  rw [h2.2.1]
  cases hl : hs.getLast? with
  | none =>
    have e : hs = [] := List.getLast?_eq_none_iff.mp hl
    subst e
    exact ⟨fun c => absurd rfl c, fun _ => OpM.same h⟩
  | some t =>
    have e := last_split hl
    have hlen : hs.length = hs.dropLast.length + 1 := by
      have h9 := congrArg List.length e
      rw [List.length_append] at h9
      exact h9
    have hle := h2.1
    refine ⟨fun _ => ?_, fun c => absurd c (nI_ne0 (by omega) (by omega))⟩
    rw [hlen, nI_pred]
    refine lp_X7_undo (t := t) (d := hs.dropLast.length) (by omega) (up_at _ _ _ _) (fun j hj => ?_) (fun g' e1 e2 => ?_) 81 0 _ rfl (fun _ _ => rfl) (fun j hj => by omega)
    · rw [up_ne (by decide), up_ne (by decide)]
      exact h2.2.2 hs.dropLast.length t (by conv => lhs; rw [e]; simp) j hj
    · refine ⟨?_, MI.iff.mpr ⟨e2, ⟨by omega, ?_, fun i t' hi j hj => ?_⟩, ?_⟩, fun k hk => by rw [e1 k (by omega), up_ne (by omega), up_ne (by omega)]⟩
      · show nI hs.dropLast.length = nI (hs.dropLast.length + 1 - 1)
        rfl
      · rw [e1 26 (by decide), up_at]
      · rw [e1 29 (by decide), up_ne (by decide), up_ne (by decide)]
        have hil : i < hs.dropLast.length := (List.getElem?_eq_some_iff.mp hi).1
        exact h2.2.2 i t' (by rw [e, List.getElem?_append_left hil]; exact hi) j hj
      · unfold TM at h3 ⊢
        rw [e1 26 (by decide), e1 30 (by decide), up_nx (by decide), up_nx (by decide), up_ne (by decide), up_ne (by decide)]
        exact h3
theorem wa_undo {a : Ab} (hw : WA a) : WA (sp_undo a).2 := by
  obtain ⟨s, hs, L, c⟩ := a
  obtain ⟨w1, w2, w3, w4, w5⟩ := WA.iff.mp hw
  unfold sp_undo
  dsimp only
  cases hl : hs.getLast? with
  | none => exact hw
  | some t =>
    have e := last_split hl
    refine WA.iff.mpr ⟨w2 t (by rw [e]; simp), fun t' h' => w2 t' (by rw [e]; exact List.mem_append_left _ h'), by rw [List.length_dropLast]; omega, w4, w5⟩
/-! restartRun -/
def sp_restart (a : Ab) : Int32 × Ab := (nI (sumPop a.1 10), (beg a.1, push a.2.1 a.1, a.2.2.1, a.2.2.2))
theorem sg_X6_restartRun_0 {Γ : Gam} {P : Int32 → Mem → Prop}  {g : Mem} (h : (Runs Γ 2 yX4_countRun iX4_countRun [.inr 34] g (fun r1 g1 => (Runs Γ 3 yX6_saveState iX6_saveState [.inr 0] g1 (fun r2 g2 => (Runs Γ 3 yX4_startRun iX4_startRun [.inr 34] g2 (fun r3 g3 => P r1 g3))))))) : AW Γ 4 iX6_restartRun P 0 [some (.inr 0)] [] g :=
  (aw_aload_n dX6_restartRun_0 rfl (aw_getr 34 fkX6_19 fa_0_1 dX6_restartRun_1 (aw_callVi lkX6_204 ckX4_countRun (cs_ isSt_34) rfl (d := 2) (by decide) [] rfl rfl (Nat.le_of_ble_eq_true rfl) dX6_restartRun_4 rfl (Runs.mono h (fun r1 g1 h1_ => (aw_istore_n [some (.inr 0), some (.inl r1)] dX6_restartRun_7 (by decide) rfl (aw_aload_n dX6_restartRun_8 rfl (aw_callVv lkX6_73 ckX6_saveState ca_0 rfl (d := 3) (by decide) [] rfl rfl (Nat.le_of_ble_eq_true rfl) dX6_restartRun_9 rfl (Runs.mono h1_ (fun r2 g2 h2_ => (aw_aload_n dX6_restartRun_12 rfl (aw_getr 34 fkX6_19 fa_0_1 dX6_restartRun_13 (aw_callVv lkX6_80 ckX4_startRun (cs_ isSt_34) rfl (d := 3) (by decide) [] rfl rfl (Nat.le_of_ble_eq_true rfl) dX6_restartRun_16 rfl (Runs.mono h2_ (fun r3 g3 h3_ => (aw_iload_n dX6_restartRun_19 rfl (aw_iret rfl (vp_nar_int _) dX6_restartRun_20 h3_)))))))))))))))))
theorem oc_restart {Γ : Gam} {a : Ab} {g : Mem} (h : CI a g) (hw : WA a) : Runs Γ 4 yX6_restartRun iX6_restartRun [.inr 0] g (OpC (sp_restart a) g) := by
  refine Runs.intro (by decide) rfl (Nat.le_of_ble_eq_true rfl) (sg_X6_restartRun_0 (Runs.fn (ct_X4_countRun isSt_34 (h.s hw)) ((ct_X6_saveState h hw).mono (fun r g1 q => ?_))))
  obtain ⟨q1, q2, q3⟩ := q
  exact start_after (P := fun _ g3 => OpC _ g _ g3) h hw.1 (h.1.ext (fun k k1 k2 => q3 k (by omega) (by omega) (by omega))) q1 q2 (fun k k1 k2 k3 => q3 k k1 k2 (by omega)) (fun g3 _ q => q)
theorem sg_X7_restartRun_0 {Γ : Gam} {P : Int32 → Mem → Prop}  {g : Mem} (h : (Runs Γ 1 yX7_save iX7_save [.inr 26] (up g 26 0 0) (fun r1 g1 => AW Γ 2 iX7_restartRun P 13 [some (.inr 26), some (.inl 0), some (.inl 0)] [] g1))) : AW Γ 2 iX7_restartRun P 0 [some (.inr 26)] [] g :=
  (aw_aload_n dX7_restartRun_0 rfl (aw_iconst 0 dX7_restartRun_1 (by decide) (aw_putf fpX7_32 fa_26_0 (vp_nar_int _) rfl dX7_restartRun_2 (aw_aload_n dX7_restartRun_5 rfl (aw_callVv lkX7_99 ckX7_save ca_26 rfl (d := 1) (by decide) [] rfl rfl (Nat.le_of_ble_eq_true rfl) dX7_restartRun_6 rfl (Runs.mono h (fun r1 g1 h1_ => (aw_iconst 0 dX7_restartRun_9 (by decide) (aw_istore_n [some (.inr 26), some (.inl 0)] dX7_restartRun_10 (by decide) rfl (aw_iconst 0 dX7_restartRun_11 (by decide) (aw_istore_n [some (.inr 26), some (.inl 0), some (.inl 0)] dX7_restartRun_12 (by decide) rfl (aw_mask [true, true, true] rfl h1_))))))))))))
theorem sg_X7_restartRun_13 {Γ : Gam} {P : Int32 → Mem → Prop}  (a1 a2 : Int32) {g : Mem} (h : ((10 ≤ a2 → (Runs Γ 1 yX7_beginRun iX7_beginRun [.inr 26] g (fun r1 g1 => P a1 g1))) ∧ (¬ (10 ≤ a2) → (vp_in (71 + a2) 81 ∧ (Runs Γ 1 yX7_bitCount iX7_bitCount [.inl (g 27 (71 + a2).toNatClampNeg)] g (fun r2 g2 => AW Γ 2 iX7_restartRun P 13 [some (.inr 26), some (.inl (a1 + r2)), some (.inl (a2 + 1))] [] g2)))))) : AW Γ 2 iX7_restartRun P 13 [some (.inr 26), some (.inl a1), some (.inl a2)] [] g :=
  (aw_iload_n dX7_restartRun_13 rfl (aw_bipush 10 dX7_restartRun_14 (by decide) (aw_icmp_ge 40 dX7_restartRun_16 (by decide) (fun c1 => (aw_aload_n dX7_restartRun_40 rfl (aw_callVv lkX7_102 ckX7_beginRun ca_26 rfl (d := 1) (by decide) [] rfl rfl (Nat.le_of_ble_eq_true rfl) dX7_restartRun_41 rfl (Runs.mono (h.1 c1) (fun r1 g1 h1_ => (aw_iload_n dX7_restartRun_44 rfl (aw_iret rfl (vp_nar_int _) dX7_restartRun_45 h1_))))))) (fun c1 => (aw_iload_n dX7_restartRun_19 rfl (aw_aload_n dX7_restartRun_20 rfl (aw_getr 27 fkX7_7 fa_26_1 dX7_restartRun_21 (aw_bipush 71 dX7_restartRun_24 (by decide) (aw_iload_n dX7_restartRun_26 rfl (aw_iadd dX7_restartRun_27 (aw_iald aa_27 dX7_restartRun_28 (h.2 c1).1 (aw_callSi lkX7_194 ckX7_bitCount (d := 1) (by decide) [.inl (g 27 (71 + a2).toNatClampNeg)] rfl rfl (Nat.le_of_ble_eq_true rfl) dX7_restartRun_29 rfl (Runs.mono (h.2 c1).2 (fun r2 g2 h2_ => (aw_iadd dX7_restartRun_32 (aw_istore_n [some (.inr 26), some (.inl (a1 + r2)), some (.inl a2)] dX7_restartRun_33 (by decide) rfl (aw_iinc (a2 + 1) [some (.inr 26), some (.inl (a1 + r2)), some (.inl (a2 + 1))] dX7_restartRun_34 rfl (by rfl) (by decide) rfl (aw_goto 13 dX7_restartRun_37 (by decide) (aw_mask [true, true, true] rfl h2_)))))))))))))))))))
theorem lp_X7_restart {Γ : Gam} {P : Int32 → Mem → Prop} {s : St} {g : Mem} (hm : MW 27 s g) (hP : Runs Γ 1 yX7_beginRun iX7_beginRun [.inr 26] g (fun _ g3 => P (nI (sumPop s 10)) g3)) : ∀ n i, i + n = 10 → AW Γ 2 iX7_restartRun P 13 [some (.inr 26), some (.inl (nI (sumPop s i))), some (.inl (nI i))] [] g := by
  intro n
  induction n with
  | zero =>
    intro i hi
    have e : i = 10 := by omega
    subst e
    exact sg_X7_restartRun_13 _ _ ⟨fun _ => hP, fun c => absurd (nI_le (Nat.le_refl 10) (by decide)) c⟩
  | succ n ih =>
    intro i hi
    have hr := hm.2.rn (i := i) (by omega)
    refine sg_X7_restartRun_13 _ _ ⟨fun c => absurd c (nI_ge (show i < 10 by omega) (by decide)), fun _ => ?_⟩
    rw [n71, ix_nI (by omega), hm.at (by omega), nI_1]
    refine ⟨vp_nI (by omega) (by decide), Runs.fn (ct_X7_bitCount (by omega)) ?_⟩
    rw [nI_add]
    exact ih (i + 1) (by omega)
theorem om_restart {Γ : Gam} {a : Ab} {g : Mem} (h : MI a g) (hw : WA a) : Runs Γ 2 yX7_restartRun iX7_restartRun [.inr 26] g (OpM (sp_restart a) g) := by
  refine Runs.intro (by decide) rfl (Nat.le_of_ble_eq_true rfl) (sg_X7_restartRun_0 ((ct_X7_save' h.thr).mono (fun r g1 q => ?_)))
  refine lp_X7_restart (s := a.1) ⟨q.1.1, hw.1⟩ ?_ 10 0 rfl
  exact mstart (P := fun _ g3 => OpM _ g _ g3) q.1 ((frM_thr g).trans q.2) hw.1 q.1.1 (fun _ _ => rfl) (fun g3 _ q => q)
theorem wa_restart {a : Ab} (hw : WA a) : WA (sp_restart a).2 := hw.psh hw.1.beg
