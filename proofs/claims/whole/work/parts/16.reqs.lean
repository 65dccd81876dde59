/-! removeReference, forbid, permit. -/
def delR (s : St) (i : Nat) : St := fun j => if j = 41 then s 41 - 1 else if 42 + 2 * i ≤ j ∧ j < 60 then s (j + 2) else s j
theorem delR_n {s : St} {i : Nat} : delR s i 41 = s 41 - 1 := by simp [delR]
theorem delR_out {s : St} {i j : Nat} (hj : j < 41 ∨ 62 ≤ j) : delR s i j = s j := by
  unfold delR; rw [if_neg (by omega), if_neg (by omega)]
theorem delR_lo {s : St} {i j : Nat} (h : j ≠ 41) (hj : j < 42 + 2 * i) : delR s i j = s j := by
  unfold delR; rw [if_neg h, if_neg (by omega)]
theorem delR_hi {s : St} {i j : Nat} (h : 42 + 2 * i ≤ j) (hj : j < 60) : delR s i j = s (j + 2) := by
  unfold delR; rw [if_neg (by omega), if_pos ⟨h, hj⟩]
theorem WF.delR {s : St} (hw : WF s) {i : Nat} (hi : i < s 41) : WF (delR s i) := by
  have hr := hw.nr
  refine hw.refs (fun j hj => delR_out hj) (by rw [delR_n]; omega) (fun k hk => ?_)
  rw [delR_n] at hk
  rcases Nat.lt_or_ge k i with q | q
  · rw [delR_lo (by omega) (by omega), delR_lo (by omega) (by omega)]; exact hw.rf (by omega)
  · rw [delR_hi (by omega) (by omega), delR_hi (by omega) (by omega)]
    have := hw.rf (k := k + 1) (by omega)
    rw [show 42 + 2 * (k + 1) = 42 + 2 * k + 2 by omega] at this
    exact this
theorem sg_X4_unlistReference_0 {Γ : Gam} {P : Int32 → Mem → Prop} (b : Nat) (hb : isSt b) (a1 : Int32) {g : Mem} (h : AW Γ 1 iX4_unlistReference P 2 [some (.inr b), none, some (.inl a1)] [] g) : AW Γ 1 iX4_unlistReference P 0 [some (.inr b), some (.inl a1)] [] g :=
  (aw_iload_n dX4_unlistReference_0 rfl (aw_istore_n [some (.inr b), some (.inl a1), some (.inl a1)] dX4_unlistReference_1 (by decide) rfl (aw_mask [true, false, true] rfl h)))
theorem sg_X4_unlistReference_2 {Γ : Gam} {P : Int32 → Mem → Prop} (b : Nat) (hb : isSt b) (a2 : Int32) {g : Mem} (h : (((g b 5) ≤ (a2 + 1) → P 0 (up g b 5 ((g b 5) - 1))) ∧ (¬ ((g b 5) ≤ (a2 + 1)) → (vp_in (a2 + 1) 10 ∧ (vp_in a2 10 ∧ (vp_in (a2 + 1) 10 ∧ (vp_in a2 10 ∧ AW Γ 1 iX4_unlistReference P 2 [some (.inr b), none, some (.inl (a2 + 1))] [] (up (up g (b + 5) a2.toNatClampNeg (g (b + 5) (a2 + 1).toNatClampNeg)) (b + 6) a2.toNatClampNeg ((up g (b + 5) a2.toNatClampNeg (g (b + 5) (a2 + 1).toNatClampNeg)) (b + 6) (a2 + 1).toNatClampNeg))))))))) : AW Γ 1 iX4_unlistReference P 2 [some (.inr b), none, some (.inl a2)] [] g :=
  (aw_iload_n dX4_unlistReference_2 rfl (aw_iconst 1 dX4_unlistReference_3 (by decide) (aw_iadd dX4_unlistReference_4 (aw_aload_n dX4_unlistReference_5 rfl (aw_geti fkX4_28 (fs_5 hb) dX4_unlistReference_6 (aw_icmp_ge 46 dX4_unlistReference_9 (by decide) (fun c1 => (aw_aload_n dX4_unlistReference_46 rfl (aw_dup dX4_unlistReference_47 (aw_geti fkX4_28 (fs_5 hb) dX4_unlistReference_48 (aw_iconst 1 dX4_unlistReference_51 (by decide) (aw_isub dX4_unlistReference_52 (aw_putf fpX4_28 (fs_5 hb) (vp_nar_int _) rfl dX4_unlistReference_53 (aw_vret rfl dX4_unlistReference_56 (h.1 c1))))))))) (fun c1 => (aw_aload_n dX4_unlistReference_12 rfl (aw_getr (b + 5) fkX4_31 (fs_6 hb) dX4_unlistReference_13 (aw_iload_n dX4_unlistReference_16 rfl (aw_aload_n dX4_unlistReference_17 rfl (aw_getr (b + 5) fkX4_31 (fs_6 hb) dX4_unlistReference_18 (aw_iload_n dX4_unlistReference_21 rfl (aw_iconst 1 dX4_unlistReference_22 (by decide) (aw_iadd dX4_unlistReference_23 (aw_iald (as_5 hb) dX4_unlistReference_24 (h.2 c1).1 (aw_iast (as_5 hb) dX4_unlistReference_25 (h.2 c1).2.1 (aw_aload_n dX4_unlistReference_26 rfl (aw_getr (b + 6) fkX4_34 (fs_7 hb) dX4_unlistReference_27 (aw_iload_n dX4_unlistReference_30 rfl (aw_aload_n dX4_unlistReference_31 rfl (aw_getr (b + 6) fkX4_34 (fs_7 hb) dX4_unlistReference_32 (aw_iload_n dX4_unlistReference_35 rfl (aw_iconst 1 dX4_unlistReference_36 (by decide) (aw_iadd dX4_unlistReference_37 (aw_iald (as_6 hb) dX4_unlistReference_38 (h.2 c1).2.2.1 (aw_iast (as_6 hb) dX4_unlistReference_39 (h.2 c1).2.2.2.1 (aw_iinc (a2 + 1) [some (.inr b), none, some (.inl (a2 + 1))] dX4_unlistReference_40 rfl (by rfl) (by decide) rfl (aw_goto 2 dX4_unlistReference_43 (by decide) (aw_mask [true, false, true] rfl (h.2 c1).2.2.2.2))))))))))))))))))))))))))))))
theorem lp_X4_unlist {Γ : Gam} {P : Int32 → Mem → Prop} {s : St} {g : Mem} (hc : CW 34 s g) {i0 : Nat} (hi0 : i0 < s 41) (hP : ∀ g', (∀ k, k ≠ 39 → k ≠ 40 → g' k = g k) → (∀ k, k < s 41 - 1 → g' 39 k = nI (delR s i0 (42 + 2 * k)) ∧ g' 40 k = nI (delR s i0 (42 + 2 * k + 1))) → P 0 (up g' 34 5 (nI (s 41 - 1)))) : ∀ n i g', i + n + 1 = s 41 → i0 ≤ i → (∀ k, k ≠ 39 → k ≠ 40 → g' k = g k) → (∀ k, k < i → g' 39 k = nI (delR s i0 (42 + 2 * k)) ∧ g' 40 k = nI (delR s i0 (42 + 2 * k + 1))) → (∀ k, i ≤ k → k < s 41 → g' 39 k = nI (s (42 + 2 * k)) ∧ g' 40 k = nI (s (42 + 2 * k + 1))) → AW Γ 1 iX4_unlistReference P 2 [some (.inr 34), none, some (.inl (nI i))] [] g' := by
  intro n
  have hr := hc.2.nr
  induction n with
  | zero =>
    intro i g' hi hle e1 e2 e3
    refine sg_X4_unlistReference_2 34 isSt_34 _ ?_
    rw [e1 34 (by decide) (by decide), hc.1.2.2.2.2.2.1, nI_1]
    refine ⟨fun _ => ?_, fun c => absurd (nI_le (by omega) (by omega)) c⟩
    have e : nI (s 41) - 1 = nI (s 41 - 1) := by
      have := nI_pred (s 41 - 1)
      rw [show s 41 - 1 + 1 = s 41 by omega] at this
      exact this
    rw [e]
    exact hP g' e1 (fun k hk => e2 k (by omega))
  | succ n ih =>
    intro i g' hi hle e1 e2 e3
    refine sg_X4_unlistReference_2 34 isSt_34 _ ?_
    obtain ⟨f1, f2⟩ := e3 (i + 1) (by omega) (by omega)
    rw [e1 34 (by decide) (by decide), hc.1.2.2.2.2.2.1, nI_1, ix_nI (by omega), ix_nI (by omega), up_ne (show 34 + 6 ≠ 34 + 5 by decide)]
    show _ ∧ (_ → _ ∧ _ ∧ _ ∧ _ ∧ AW Γ 1 iX4_unlistReference P 2 [some (.inr 34), none, some (.inl (nI (i + 1)))] [] (up (up g' 39 i (g' 39 (i + 1))) 40 i (g' 40 (i + 1))))
    rw [f1, f2]
    refine ⟨fun c => absurd c (nI_ge (by omega) (by omega)), fun _ => ⟨vp_nI (by omega) (by decide), vp_nI (by omega) (by decide), vp_nI (by omega) (by decide), vp_nI (by omega) (by decide), ih (i + 1) _ (by omega) (by omega) (fun k k1 k2 => by rw [up_ne k2, up_ne k1, e1 k k1 k2]) (fun k hk => ?_) (fun k hk hk2 => ?_)⟩⟩
    · rcases Nat.lt_or_ge k i with q | q
      · rw [up_ne (show 39 ≠ 40 by decide), up_nx (by omega), up_nx (by omega), up_ne (by decide)]; exact e2 k q
      · have e : k = i := by omega
        subst e
        rw [up_ne (show 39 ≠ 40 by decide), up_at, up_at, delR_hi (by omega) (by omega), delR_hi (by omega) (by omega), show 42 + 2 * (k + 1) = 42 + 2 * k + 2 by omega]
        exact ⟨rfl, rfl⟩
    · rw [up_ne (show 39 ≠ 40 by decide), up_nx (by omega), up_nx (by omega), up_ne (by decide)]; exact e3 k (by omega) hk2
theorem ct_X4_unlistReference {Γ : Gam} {s : St} {g : Mem} {i : Nat} (hc : CW 34 s g) (hi : i < s 41) : Runs Γ 1 yX4_unlistReference iX4_unlistReference [.inr 34, .inl (nI i)] g (fun _ g' => CS 34 (delR s i) g' ∧ ∀ k, k ≠ 34 → k ≠ 39 → k ≠ 40 → g' k = g k) := by
  refine Runs.intro (by decide) rfl (Nat.le_of_ble_eq_true rfl) (sg_X4_unlistReference_0 34 isSt_34 _ (lp_X4_unlist hc hi (fun g' e1 e2 => ⟨?_, fun k k1 k2 k3 => by rw [up_ne k1, e1 k k2 k3]⟩) (s 41 - i - 1) i g (by omega) (Nat.le_refl _) (fun _ _ _ => rfl) (fun k hk => ?_) (fun k _ hk => hc.1.2.2.2.2.2.2.1 k hk)))
  · rw [delR_lo (by omega) (by omega), delR_lo (by omega) (by omega)]
    exact hc.1.2.2.2.2.2.2.1 k (by omega)
  · refine CS.refs hc.2 hc.1 (fun j hj => delR_out hj) (fun k k1 k2 k3 => by rw [up_ne k1, e1 k k2 k3]) (fun j hj => by rw [up_nx hj, e1 34 (by decide) (by decide)]) (by rw [up_at, delR_n]) (fun k hk => ?_)
    rw [delR_n] at hk
    rw [up_ne (by decide), up_ne (by decide)]
    exact e2 k hk
def sp_removeReference (a : Ab) (x : Int32) : Int32 × Ab := if inR (a.1 41) x then (nI (a.1 41 - 1), (beg (delR a.1 x.toNatClampNeg), push a.2.1 a.1, a.2.2.1, a.2.2.2)) else (-1, a)
theorem sg_X6_removeReference_0 {Γ : Gam} {P : Int32 → Mem → Prop}  (a1 : Int32) {g : Mem} (h : ((a1 < 0 → P (-1) g) ∧ (¬ (a1 < 0) → ((a1 < (g 34 5) → (Runs Γ 3 yX6_saveState iX6_saveState [.inr 0] g (fun r1 g1 => (Runs Γ 1 yX4_unlistReference iX4_unlistReference [.inr 34, .inl a1] g1 (fun r2 g2 => (Runs Γ 3 yX4_startRun iX4_startRun [.inr 34] g2 (fun r3 g3 => P (g3 34 5) g3))))))) ∧ (¬ (a1 < (g 34 5)) → P (-1) g))))) : AW Γ 4 iX6_removeReference P 0 [some (.inr 0), some (.inl a1)] [] g :=
  (aw_iload_n dX6_removeReference_0 rfl (aw_if_lt 15 dX6_removeReference_1 (by decide) (fun c1 => (aw_iconst (-1) dX6_removeReference_15 (by decide) (aw_iret rfl (vp_nar_int _) dX6_removeReference_16 (h.1 c1)))) (fun c1 => (aw_iload_n dX6_removeReference_4 rfl (aw_aload_n dX6_removeReference_5 rfl (aw_getr 34 fkX6_19 fa_0_1 dX6_removeReference_6 (aw_geti fkX6_109 (fs_5 isSt_34) dX6_removeReference_9 (aw_icmp_lt 17 dX6_removeReference_12 (by decide) (fun c2 => (aw_aload_n dX6_removeReference_17 rfl (aw_callVv lkX6_73 ckX6_saveState ca_0 rfl (d := 3) (by decide) [] rfl rfl (Nat.le_of_ble_eq_true rfl) dX6_removeReference_18 rfl (Runs.mono ((h.2 c1).1 c2) (fun r1 g1 h1_ => (aw_aload_n dX6_removeReference_21 rfl (aw_getr 34 fkX6_19 fa_0_1 dX6_removeReference_22 (aw_iload_n dX6_removeReference_25 rfl (aw_callVv lkX6_116 ckX4_unlistReference (cs_ isSt_34) rfl (d := 1) (by decide) [.inl a1] rfl rfl (Nat.le_of_ble_eq_true rfl) dX6_removeReference_26 rfl (Runs.mono h1_ (fun r2 g2 h2_ => (aw_aload_n dX6_removeReference_29 rfl (aw_getr 34 fkX6_19 fa_0_1 dX6_removeReference_30 (aw_callVv lkX6_80 ckX4_startRun (cs_ isSt_34) rfl (d := 3) (by decide) [] rfl rfl (Nat.le_of_ble_eq_true rfl) dX6_removeReference_33 rfl (Runs.mono h2_ (fun r3 g3 h3_ => (aw_aload_n dX6_removeReference_36 rfl (aw_getr 34 fkX6_19 fa_0_1 dX6_removeReference_37 (aw_geti fkX6_109 (fs_5 isSt_34) dX6_removeReference_40 (aw_iret rfl (vp_nar_int _) dX6_removeReference_43 h3_)))))))))))))))))))) (fun c2 => (aw_iconst (-1) dX6_removeReference_15 (by decide) (aw_iret rfl (vp_nar_int _) dX6_removeReference_16 ((h.2 c1).2 c2))))))))))))
theorem oc_removeReference {Γ : Gam} {a : Ab} {g : Mem} {x : Int32} (h : CI a g) (hw : WA a) : Runs Γ 4 yX6_removeReference iX6_removeReference [.inr 0, .inl x] g (OpC (sp_removeReference a x) g) := by
  have hr := hw.1.nr
  unfold sp_removeReference
  refine Runs.intro (by decide) rfl (Nat.le_of_ble_eq_true rfl) (sg_X6_removeReference_0 x ?_)
  rw [h.1.2.2.2.2.2.1]
  refine ⟨fun c1 => ?_, fun c1 => ⟨fun c2 => ?_, fun c2 => ?_⟩⟩
  · rw [if_neg (by rw [inR_neg c1]; decide)]; exact OpC.same h
  · have hi : inR (a.1 41) x = true := inR_yes (by omega) c1 (not_le32.mpr c2)
    obtain ⟨x1, x2⟩ := inR_ex hi
    rw [if_pos hi]
    refine (ct_X6_saveState h hw).mono (fun r g1 q => ?_)
    obtain ⟨q1, q2, q3⟩ := q
    have hc1 : CW 34 a.1 g1 := ⟨h.1.ext (fun k k1 k2 => q3 k (by omega) (by omega) (by omega)), hw.1⟩
    have hl := ct_X4_unlistReference (Γ := Γ) hc1 x1
    rw [← x2] at hl
    refine hl.mono (fun r g2 z => ?_)
    refine start_after (r := nI (a.1 41 - 1)) (P := fun _ g3 => OpC _ g (g3 34 5) g3) h (hw.1.delR x1) z.1 (q1.ext (z.2 4 (by decide) (by decide) (by decide)) (fun k hk => z.2 k (by omega) (by omega) (by omega))) (by rw [z.2 0 (by decide) (by decide) (by decide)]; exact q2) (fun k k1 k2 k3 => by rw [z.2 k (by omega) (by omega) (by omega), q3 k k1 k2 (by omega)]) (fun g3 hc q => ?_)
    have e : g3 34 5 = nI (a.1 41 - 1) := by rw [hc.2.2.2.2.2.1, beg_lo (by decide), delR_n]
    rw [e]
    exact q
  · rw [if_neg (by rw [inR_big (by omega) (not_lt32.mp c2)]; decide)]; exact OpC.same h
theorem n2 (j : Nat) : nI j + 2 = nI (j + 2) := nI_add j 2
theorem sg_X7_removeReference_0 {Γ : Gam} {P : Int32 → Mem → Prop}  (a1 : Int32) {g : Mem} (h : ((¬ (bi (inI a1 0 ((g 27 41) - 1))) = 0 → (Runs Γ 1 yX7_save iX7_save [.inr 26] (up g 26 0 0) (fun r1 g1 => AW Γ 2 iX7_removeReference P 35 [some (.inr 26), none, some (.inl (42 + (2 * a1)))] [] g1))) ∧ ((bi (inI a1 0 ((g 27 41) - 1))) = 0 → P (-1) (up g 26 0 0)))) : AW Γ 2 iX7_removeReference P 0 [some (.inr 26), some (.inl a1)] [] g :=
  (aw_aload_n dX7_removeReference_0 rfl (aw_iconst 0 dX7_removeReference_1 (by decide) (aw_putf fpX7_32 fa_26_0 (vp_nar_int _) rfl dX7_removeReference_2 (aw_iload_n dX7_removeReference_5 rfl (aw_iconst 0 dX7_removeReference_6 (by decide) (aw_aload_n dX7_removeReference_7 rfl (aw_getr 27 fkX7_7 fa_26_1 dX7_removeReference_8 (aw_bipush 41 dX7_removeReference_11 (by decide) (aw_iald aa_27 dX7_removeReference_13 (vp_lit 41 (by decide) (by decide)) (aw_iconst 1 dX7_removeReference_14 (by decide) (aw_isub dX7_removeReference_15 (aw_callSi lkX7_56 ckX7_in (d := 1) (by decide) [.inl a1, .inl 0, .inl ((g 27 41) - 1)] rfl rfl (Nat.le_of_ble_eq_true rfl) dX7_removeReference_16 rfl (Runs.fn ct_X7_in (aw_if_ne 24 dX7_removeReference_19 (by decide) (fun c1 => (aw_aload_n dX7_removeReference_24 rfl (aw_callVv lkX7_99 ckX7_save ca_26 rfl (d := 1) (by decide) [] rfl rfl (Nat.le_of_ble_eq_true rfl) dX7_removeReference_25 rfl (Runs.mono (h.1 c1) (fun r1 g1 h1_ => (aw_bipush 42 dX7_removeReference_28 (by decide) (aw_iconst 2 dX7_removeReference_30 (by decide) (aw_iload_n dX7_removeReference_31 rfl (aw_imul dX7_removeReference_32 (aw_iadd dX7_removeReference_33 (aw_istore_n [some (.inr 26), some (.inl a1), some (.inl (42 + (2 * a1)))] dX7_removeReference_34 (by decide) rfl (aw_mask [true, false, true] rfl h1_)))))))))))) (fun c1 => (aw_iconst (-1) dX7_removeReference_22 (by decide) (aw_iret rfl (vp_nar_int _) dX7_removeReference_23 (h.2 c1))))))))))))))))))
theorem sg_X7_removeReference_35 {Γ : Gam} {P : Int32 → Mem → Prop}  (a2 : Int32) {g : Mem} (h : ((62 ≤ (a2 + 2) → (Runs Γ 1 yX7_beginRun iX7_beginRun [.inr 26] (up g 27 41 ((g 27 41) - 1)) (fun r1 g1 => P (g1 27 41) g1))) ∧ (¬ (62 ≤ (a2 + 2)) → (vp_in (a2 + 2) 81 ∧ (vp_in a2 81 ∧ AW Γ 2 iX7_removeReference P 35 [some (.inr 26), none, some (.inl (a2 + 1))] [] (up g 27 a2.toNatClampNeg (g 27 (a2 + 2).toNatClampNeg))))))) : AW Γ 2 iX7_removeReference P 35 [some (.inr 26), none, some (.inl a2)] [] g :=
  (aw_iload_n dX7_removeReference_35 rfl (aw_iconst 2 dX7_removeReference_36 (by decide) (aw_iadd dX7_removeReference_37 (aw_bipush 62 dX7_removeReference_38 (by decide) (aw_icmp_ge 63 dX7_removeReference_40 (by decide) (fun c1 => (aw_aload_n dX7_removeReference_63 rfl (aw_getr 27 fkX7_7 fa_26_1 dX7_removeReference_64 (aw_bipush 41 dX7_removeReference_67 (by decide) (aw_dup2 dX7_removeReference_69 (aw_iald aa_27 dX7_removeReference_70 (vp_lit 41 (by decide) (by decide)) (aw_iconst 1 dX7_removeReference_71 (by decide) (aw_isub dX7_removeReference_72 (aw_iast aa_27 dX7_removeReference_73 (vp_lit 41 (by decide) (by decide)) (aw_aload_n dX7_removeReference_74 rfl (aw_callVv lkX7_102 ckX7_beginRun ca_26 rfl (d := 1) (by decide) [] rfl rfl (Nat.le_of_ble_eq_true rfl) dX7_removeReference_75 rfl (Runs.mono (h.1 c1) (fun r1 g1 h1_ => (aw_aload_n dX7_removeReference_78 rfl (aw_getr 27 fkX7_7 fa_26_1 dX7_removeReference_79 (aw_bipush 41 dX7_removeReference_82 (by decide) (aw_iald aa_27 dX7_removeReference_84 (vp_lit 41 (by decide) (by decide)) (aw_iret rfl (vp_nar_int _) dX7_removeReference_85 h1_)))))))))))))))))) (fun c1 => (aw_aload_n dX7_removeReference_43 rfl (aw_getr 27 fkX7_7 fa_26_1 dX7_removeReference_44 (aw_iload_n dX7_removeReference_47 rfl (aw_aload_n dX7_removeReference_48 rfl (aw_getr 27 fkX7_7 fa_26_1 dX7_removeReference_49 (aw_iload_n dX7_removeReference_52 rfl (aw_iconst 2 dX7_removeReference_53 (by decide) (aw_iadd dX7_removeReference_54 (aw_iald aa_27 dX7_removeReference_55 (h.2 c1).1 (aw_iast aa_27 dX7_removeReference_56 (h.2 c1).2.1 (aw_iinc (a2 + 1) [some (.inr 26), none, some (.inl (a2 + 1))] dX7_removeReference_57 rfl (by rfl) (by decide) rfl (aw_goto 35 dX7_removeReference_60 (by decide) (aw_mask [true, false, true] rfl (h.2 c1).2.2)))))))))))))))))))
theorem lp_X7_rem {Γ : Gam} {P : Int32 → Mem → Prop} {s : St} {g : Mem} (hm : MA 27 s g) {i0 : Nat} (hr : 1 ≤ s 41 ∧ s 41 ≤ 10) (hP : ∀ g', (∀ k, k ≠ 27 → g' k = g k) → MA 27 (delR s i0) g' → Runs Γ 1 yX7_beginRun iX7_beginRun [.inr 26] g' (fun _ g3 => P (g3 27 41) g3)) : ∀ n k g', k + n = 60 → 42 + 2 * i0 ≤ k → (∀ k, k ≠ 27 → g' k = g k) → (∀ j, j < 42 + 2 * i0 → g' 27 j = nI (s j)) → (∀ j, 42 + 2 * i0 ≤ j → j < k → g' 27 j = nI (s (j + 2))) → (∀ j, k ≤ j → j < 81 → g' 27 j = nI (s j)) → AW Γ 2 iX7_removeReference P 35 [some (.inr 26), none, some (.inl (nI k))] [] g' := by
  intro n
  induction n with
  | zero =>
    intro k g' hk hle e1 e2 e3 e4
    have e : k = 60 := by omega
    subst e
    refine sg_X7_removeReference_35 _ ?_
    rw [n2]
    refine ⟨fun _ => hP _ (fun k hk => by rw [up_ne hk, e1 k hk]) (fun j hj => ?_), fun c => absurd (nI_le (Nat.le_refl 62) (by decide)) c⟩
    by_cases h41 : j = 41
    · subst h41
      rw [up_at, delR_n, e2 41 (by omega)]
      have := nI_pred (s 41 - 1)
      rw [show s 41 - 1 + 1 = s 41 by omega] at this
      exact this
    · rw [up_nx h41]
      rcases Nat.lt_or_ge j (42 + 2 * i0) with q | q
      · rw [delR_lo h41 q]; exact e2 j q
      · rcases Nat.lt_or_ge j 60 with q2 | q2
        · rw [delR_hi q q2]; exact e3 j q q2
        · unfold delR
          rw [if_neg h41, if_neg (by omega)]; exact e4 j q2 hj
  | succ n ih =>
    intro k g' hk hle e1 e2 e3 e4
    refine sg_X7_removeReference_35 _ ?_
    rw [n2, nI_1, ix_nI (by omega), ix_nI (by omega), e4 (k + 2) (by omega) (by omega)]
    refine ⟨fun c => absurd c (nI_ge (show k + 2 < 62 by omega) (by decide)), fun _ => ⟨vp_nI (by omega) (by decide), vp_nI (by omega) (by decide), ih (k + 1) _ (by omega) (by omega) (fun j hj => by rw [up_ne hj, e1 j hj]) (fun j hj => by rw [up_nx (by omega)]; exact e2 j hj) (fun j hj hj2 => ?_) (fun j hj hj2 => by rw [up_nx (by omega)]; exact e4 j (by omega) hj2)⟩⟩
    rcases Nat.lt_or_ge j k with q | q
    · rw [up_nx (by omega)]; exact e3 j hj q
    · rw [show j = k by omega, up_at]
theorem om_removeReference {Γ : Gam} {a : Ab} {g : Mem} {x : Int32} (h : MI a g) (hw : WA a) : Runs Γ 2 yX7_removeReference iX7_removeReference [.inr 26, .inl x] g (OpM (sp_removeReference a x) g) := by
  have hr := hw.1.nr
  unfold sp_removeReference
  refine Runs.intro (by decide) rfl (Nat.le_of_ble_eq_true rfl) (sg_X7_removeReference_0 x ?_)
  rw [h.1 41 (by decide), inI_n hr]
  refine ⟨fun c1 => (ct_X7_save' h.thr).mono (fun r g1 q => ?_), fun c1 => ?_⟩
  · rw [bi_ne0] at c1
    obtain ⟨x1, x2⟩ := inR_ex c1
    have hm : MA 27 a.1 g1 := q.1.1
    have e : 42 + 2 * x = nI (42 + 2 * x.toNatClampNeg) := by
      conv => lhs; rw [x2]
      exact n42 _
    rw [if_pos c1, e]
    refine lp_X7_rem hm (i0 := x.toNatClampNeg) ⟨by omega, hr⟩ (fun g2 f1 f2 => ?_) (60 - (42 + 2 * x.toNatClampNeg)) _ g1 (by omega) (Nat.le_refl _) (fun _ _ => rfl) (fun j hj => hm j (by omega)) (fun j h1 h2 => by omega) (fun j _ hj => hm j hj)
    refine mstart (r := nI (a.1 41 - 1)) (P := fun _ g3 => OpM _ g (g3 27 41) g3) q.1 ((frM_thr g).trans q.2) (hw.1.delR x1) f2 f1 (fun g3 hc q => ?_)
    have e : g3 27 41 = nI (a.1 41 - 1) := by rw [hc 41 (by decide), beg_lo (by decide), delR_n]
    rw [e]
    exact q
  · rw [bi_eq0] at c1; rw [if_neg (by simp [c1])]; exact OpM.same h
theorem wa_removeReference {a : Ab} {x : Int32} (hw : WA a) : WA (sp_removeReference a x).2 := by
  unfold sp_removeReference
  split
  · rename_i c
    exact hw.psh (hw.1.delR (inR_ex c).1).beg
  · exact hw
/-! requirements -/
def addQ (s : St) (h o : Nat) : St := sset (sset (sset s (63 + 2 * s 62) h) (63 + 2 * s 62 + 1) o) 62 (s 62 + 1)
theorem addQ_out {s : St} {h o j : Nat} (hn : s 62 < 4) (hj : j < 62 ∨ 71 ≤ j) : addQ s h o j = s j := by
  unfold addQ; rw [sset_ne (by omega), sset_ne (by omega), sset_ne (by omega)]
theorem addQ_n {s : St} {h o : Nat} : addQ s h o 62 = s 62 + 1 := sset_at _ _ _
theorem addQ_new {s : St} {h o : Nat} : addQ s h o (63 + 2 * s 62) = h ∧ addQ s h o (63 + 2 * s 62 + 1) = o := by
  unfold addQ
  rw [sset_ne (by omega), sset_ne (by omega), sset_at, sset_ne (by omega), sset_at]
  exact ⟨rfl, rfl⟩
theorem addQ_old {s : St} {h o k : Nat} (hk : k < s 62) : addQ s h o (63 + 2 * k) = s (63 + 2 * k) ∧ addQ s h o (63 + 2 * k + 1) = s (63 + 2 * k + 1) := by
  unfold addQ
  rw [sset_ne (by omega), sset_ne (by omega), sset_ne (by omega), sset_ne (by omega), sset_ne (by omega), sset_ne (by omega)]
  exact ⟨rfl, rfl⟩
theorem WF.addQ {s : St} (hw : WF s) (hr : s 62 < 4) {h o : Nat} (hh : h < s 0) (ho : o < s 0) : WF (addQ s h o) := by
  refine hw.reqs (fun j hj => addQ_out hr hj) (by rw [addQ_n]; omega) (fun k hk2 => ?_)
  rw [addQ_n] at hk2
  rcases Nat.lt_or_ge k (s 62) with q | q
  · rw [(addQ_old q).1, (addQ_old q).2]; exact hw.rq q
  · have e : k = s 62 := by omega
    subst e
    rw [addQ_new.1, addQ_new.2]; exact ⟨hh, ho⟩
theorem sg_X4_addRequirement_0 {Γ : Gam} {P : Int32 → Mem → Prop} (b : Nat) (hb : isSt b) (a1 a2 : Int32) {g : Mem} (h : (((g b 8) < 4 → (vp_in (g b 8) 4 ∧ (vp_in ((up g (b + 7) (g b 8).toNatClampNeg a1) b 8) 4 ∧ P 0 (up (up (up g (b + 7) (g b 8).toNatClampNeg a1) (b + 8) ((up g (b + 7) (g b 8).toNatClampNeg a1) b 8).toNatClampNeg a2) b 8 (((up (up g (b + 7) (g b 8).toNatClampNeg a1) (b + 8) ((up g (b + 7) (g b 8).toNatClampNeg a1) b 8).toNatClampNeg a2) b 8) + 1))))) ∧ (¬ ((g b 8) < 4) → P 0 g))) : AW Γ 1 iX4_addRequirement P 0 [some (.inr b), some (.inl a1), some (.inl a2)] [] g :=
  (aw_aload_n dX4_addRequirement_0 rfl (aw_geti fkX4_37 (fs_8 hb) dX4_addRequirement_1 (aw_iconst 4 dX4_addRequirement_4 (by decide) (aw_icmp_lt 9 dX4_addRequirement_5 (by decide) (fun c1 => (aw_aload_n dX4_addRequirement_9 rfl (aw_getr (b + 7) fkX4_40 (fs_9 hb) dX4_addRequirement_10 (aw_aload_n dX4_addRequirement_13 rfl (aw_geti fkX4_37 (fs_8 hb) dX4_addRequirement_14 (aw_iload_n dX4_addRequirement_17 rfl (aw_iast (as_7 hb) dX4_addRequirement_18 (h.1 c1).1 (aw_aload_n dX4_addRequirement_19 rfl (aw_getr (b + 8) fkX4_43 (fs_10 hb) dX4_addRequirement_20 (aw_aload_n dX4_addRequirement_23 rfl (aw_geti fkX4_37 (fs_8 hb) dX4_addRequirement_24 (aw_iload_n dX4_addRequirement_27 rfl (aw_iast (as_8 hb) dX4_addRequirement_28 (h.1 c1).2.1 (aw_aload_n dX4_addRequirement_29 rfl (aw_dup dX4_addRequirement_30 (aw_geti fkX4_37 (fs_8 hb) dX4_addRequirement_31 (aw_iconst 1 dX4_addRequirement_34 (by decide) (aw_iadd dX4_addRequirement_35 (aw_putf fpX4_37 (fs_8 hb) (vp_nar_int _) rfl dX4_addRequirement_36 (aw_vret rfl dX4_addRequirement_39 (h.1 c1).2.2)))))))))))))))))))) (fun c1 => (aw_vret rfl dX4_addRequirement_8 (h.2 c1)))))))
theorem ct_X4_addRequirement {Γ : Gam} {s : St} {g : Mem} {h o : Nat} (hc : CW 34 s g) (hr : s 62 < 4) : Runs Γ 1 yX4_addRequirement iX4_addRequirement [.inr 34, .inl (nI h), .inl (nI o)] g (fun _ g' => CS 34 (addQ s h o) g' ∧ ∀ k, k ≠ 34 → k ≠ 41 → k ≠ 42 → g' k = g k) := by
  obtain ⟨c1, c2, c3, c4, c5, c6, c7, c8, c9, c10⟩ := hc.1
  refine Runs.intro (by decide) rfl (Nat.le_of_ble_eq_true rfl) (sg_X4_addRequirement_0 34 isSt_34 _ _ ?_)
  rw [up_ne (show 34 ≠ 34 + 8 by decide), up_ne (show 34 ≠ 34 + 7 by decide), c8, nI_1, ix_nI (by omega), show (4 : Int32) = nI 4 from rfl, nI_ltI (by omega) (by decide)]
  refine ⟨fun _ => ⟨vp_nI hr (by decide), vp_nI hr (by decide), ?_, fun k k1 k2 k3 => by rw [up_ne k1, up_ne k3, up_ne k2]⟩, fun c => absurd hr c⟩
  refine CS.reqs hc.2 hc.1 (fun j hj => addQ_out hr hj) (fun k k1 k2 k3 => by rw [up_ne k1, up_ne k3, up_ne k2]) (fun j hj => by rw [up_nx hj, up_ne (by decide), up_ne (by decide)]) (by rw [up_at, addQ_n]) (fun k hk => ?_)
  rw [addQ_n] at hk
  rw [up_ne (show 41 ≠ 34 by decide), up_ne (show 41 ≠ 34 + 8 by decide), up_ne (show 42 ≠ 34 by decide)]
  show up g 41 (s 62) (nI h) 41 k = _ ∧ up (up g 41 (s 62) (nI h)) 42 (s 62) (nI o) 42 k = _
  rcases Nat.lt_or_ge k (s 62) with q | q
  · rw [(addQ_old q).1, (addQ_old q).2, up_nx (by omega), up_nx (by omega), up_ne (by decide)]; exact c9 k q
  · have e : k = s 62 := by omega
    subst e
    rw [addQ_new.1, addQ_new.2, up_at, up_at]; exact ⟨rfl, rfl⟩
def sp_forbid (a : Ab) (x y : Int32) : Int32 × Ab := if inR (a.1 0) x && inR (a.1 0) y then (if ff (reqP a.1 x y) 0 (a.1 62) < a.1 62 then (-2, a) else if a.1 62 = 4 then (-3, a) else (nI (a.1 62 + 1), (addQ a.1 x.toNatClampNeg y.toNatClampNeg, push a.2.1 a.1, a.2.2.1, a.2.2.2))) else (-1, a)
theorem fI_neg {p : Nat → Bool} {n : Nat} {x : Int32} (hn : n < 2 ^ 31) (hx : x.toInt < 0) : fI x p n = x ↔ ¬ ff p 0 n < n := by
  unfold fI
  split
  · rename_i q
    exact ⟨fun e => absurd e (nI_ne_neg (by omega) hx), fun e => absurd q e⟩
  · rename_i q
    exact ⟨fun _ => q, fun _ => rfl⟩
/-- a changed state of the class behind a save, without a new run -/
theorem CI.kept {a : Ab} {s' : St} {g g1 g2 : Mem} (h : CI a g) (q1 : HC (push a.2.1 a.1) g1) (q2 : g1 0 8 = 0) (q3 : ∀ k, k ≠ 0 → k ≠ 4 → k < 54 → g1 k = g k) (hs : CS 34 s' g2) (hz : ∀ k, k < 34 ∨ 44 ≤ k → g2 k = g1 k) {r : Int32} : OpC (r, (s', push a.2.1 a.1, a.2.2.1, a.2.2.2)) g r g2 := by
  refine ⟨rfl, h.saved hs (q1.ext (hz 4 (by omega)) (fun k hk => hz k (by omega))) (by rw [hz 0 (by omega)]; exact q2) (fun k k1 k2 => by rw [hz k (by omega), q3 k (by omega) (by omega) (by omega)]), fun k k1 k2 => by rw [hz k (by omega), q3 k (by omega) (by omega) (by omega)]⟩
theorem sg_X6_forbid_0 {Γ : Gam} {P : Int32 → Mem → Prop}  (s : St) (a1 a2 : Int32) {g : Mem} (h : (CW 34 s g ∧ ((¬ (bi (inR (s 0) a1 && inR (s 0) a2)) = 0 → (CW 34 s g ∧ (((fI (-1) (reqP s a1 a2) (s 62)) = (-1) → (((g 34 8) < 4 → (Runs Γ 3 yX6_saveState iX6_saveState [.inr 0] g (fun r1 g1 => (Runs Γ 1 yX4_addRequirement iX4_addRequirement [.inr 34, .inl a1, .inl a2] g1 (fun r2 g2 => P (g2 34 8) g2))))) ∧ (¬ ((g 34 8) < 4) → P (-3) g))) ∧ (¬ (fI (-1) (reqP s a1 a2) (s 62)) = (-1) → P (-2) g)))) ∧ ((bi (inR (s 0) a1 && inR (s 0) a2)) = 0 → P (-1) g)))) : AW Γ 4 iX6_forbid P 0 [some (.inr 0), some (.inl a1), some (.inl a2)] [] g :=
  (aw_aload_n dX6_forbid_0 rfl (aw_getr 34 fkX6_19 fa_0_1 dX6_forbid_1 (aw_iload_n dX6_forbid_4 rfl (aw_iload_n dX6_forbid_5 rfl (aw_callVi lkX6_120 ckX4_hasBoth (cs_ isSt_34) rfl (d := 2) (by decide) [.inl a1, .inl a2] rfl rfl (Nat.le_of_ble_eq_true rfl) dX6_forbid_6 rfl (Runs.fn ((ct_X4_hasBoth isSt_34) h.1) (aw_if_ne 14 dX6_forbid_9 (by decide) (fun c1 => (aw_aload_n dX6_forbid_14 rfl (aw_getr 34 fkX6_19 fa_0_1 dX6_forbid_15 (aw_iload_n dX6_forbid_18 rfl (aw_iload_n dX6_forbid_19 rfl (aw_callVi lkX6_153 ckX4_findRequirement (cs_ isSt_34) rfl (d := 1) (by decide) [.inl a1, .inl a2] rfl rfl (Nat.le_of_ble_eq_true rfl) dX6_forbid_20 rfl (Runs.fn ((ct_X4_findRequirement isSt_34) (h.2.1 c1).1) (aw_iconst (-1) dX6_forbid_23 (by decide) (aw_icmp_eq 30 dX6_forbid_24 (by decide) (fun c2 => (aw_aload_n dX6_forbid_30 rfl (aw_getr 34 fkX6_19 fa_0_1 dX6_forbid_31 (aw_geti fkX6_156 (fs_8 isSt_34) dX6_forbid_34 (aw_iconst 4 dX6_forbid_37 (by decide) (aw_icmp_lt 44 dX6_forbid_38 (by decide) (fun c3 => (aw_aload_n dX6_forbid_44 rfl (aw_callVv lkX6_73 ckX6_saveState ca_0 rfl (d := 3) (by decide) [] rfl rfl (Nat.le_of_ble_eq_true rfl) dX6_forbid_45 rfl (Runs.mono (((h.2.1 c1).2.1 c2).1 c3) (fun r1 g1 h1_ => (aw_aload_n dX6_forbid_48 rfl (aw_getr 34 fkX6_19 fa_0_1 dX6_forbid_49 (aw_iload_n dX6_forbid_52 rfl (aw_iload_n dX6_forbid_53 rfl (aw_callVv lkX6_159 ckX4_addRequirement (cs_ isSt_34) rfl (d := 1) (by decide) [.inl a1, .inl a2] rfl rfl (Nat.le_of_ble_eq_true rfl) dX6_forbid_54 rfl (Runs.mono h1_ (fun r2 g2 h2_ => (aw_aload_n dX6_forbid_57 rfl (aw_getr 34 fkX6_19 fa_0_1 dX6_forbid_58 (aw_geti fkX6_156 (fs_8 isSt_34) dX6_forbid_61 (aw_iret rfl (vp_nar_int _) dX6_forbid_64 h2_)))))))))))))))) (fun c3 => (aw_bipush (-3) dX6_forbid_41 (by decide) (aw_iret rfl (vp_nar_int _) dX6_forbid_43 (((h.2.1 c1).2.1 c2).2 c3)))))))))) (fun c2 => (aw_bipush (-2) dX6_forbid_27 (by decide) (aw_iret rfl (vp_nar_int _) dX6_forbid_29 ((h.2.1 c1).2.2 c2))))))))))))) (fun c1 => (aw_iconst (-1) dX6_forbid_12 (by decide) (aw_iret rfl (vp_nar_int _) dX6_forbid_13 (h.2.2 c1)))))))))))
theorem oc_forbid {Γ : Gam} {a : Ab} {g : Mem} {x y : Int32} (h : CI a g) (hw : WA a) : Runs Γ 4 yX6_forbid iX6_forbid [.inr 0, .inl x, .inl y] g (OpC (sp_forbid a x y) g) := by
  have hr := hw.1.nq
  unfold sp_forbid
  refine Runs.intro (by decide) rfl (Nat.le_of_ble_eq_true rfl) (sg_X6_forbid_0 a.1 x y ⟨h.s hw, fun c1 => ⟨h.s hw, ?_⟩, fun c1 => ?_⟩)
  · rw [bi_ne0] at c1
    rw [if_pos c1]
    rw [Bool.and_eq_true] at c1
    obtain ⟨x1, x2⟩ := inR_ex c1.1
    obtain ⟨y1, y2⟩ := inR_ex c1.2
    rw [fI_neg (by omega) (by decide), h.1.2.2.2.2.2.2.2.1, show (4 : Int32) = nI 4 from rfl, nI_ltI (by omega) (by decide)]
    refine ⟨fun c3 => ⟨fun c4 => (ct_X6_saveState h hw).mono (fun r g1 q => ?_), fun c4 => ?_⟩, fun c3 => ?_⟩
    · obtain ⟨q1, q2, q3⟩ := q
      rw [if_neg c3, if_neg (by omega)]
      have hc1 : CW 34 a.1 g1 := ⟨h.1.ext (fun k k1 k2 => q3 k (by omega) (by omega) (by omega)), hw.1⟩
      have hl := ct_X4_addRequirement (Γ := Γ) (h := x.toNatClampNeg) (o := y.toNatClampNeg) hc1 c4
      rw [← x2, ← y2] at hl
      refine hl.mono (fun r g2 z => ?_)
      rw [z.1.2.2.2.2.2.2.2.1, addQ_n]
      exact h.kept q1 q2 q3 z.1 (fun k hk => z.2 k (by omega) (by omega) (by omega))
    · rw [if_neg c3, if_pos (by omega)]; exact OpC.same h
    · rw [if_pos (by omega)]; exact OpC.same h
  · rw [bi_eq0] at c1; rw [if_neg (by simp [c1])]; exact OpC.same h
theorem sg_X7_forbid_0 {Γ : Gam} {P : Int32 → Mem → Prop}  (s : St) (a1 a2 : Int32) {g : Mem} (h : (MW 27 s (up g 26 0 0) ∧ ((¬ (bi (inR (s 0) a1 && inR (s 0) a2)) = 0 → (MW 27 s (up g 26 0 0) ∧ (((fI (-9) (reqP s a1 a2) (s 62)) = (-9) → ((¬ (g 27 62) = 4 → (Runs Γ 1 yX7_save iX7_save [.inr 26] (up g 26 0 0) (fun r1 g1 => (vp_in (63 + (2 * (g1 27 62))) 81 ∧ (vp_in ((63 + (2 * ((up g1 27 (63 + (2 * (g1 27 62))).toNatClampNeg a1) 27 62))) + 1) 81 ∧ P (((up (up g1 27 (63 + (2 * (g1 27 62))).toNatClampNeg a1) 27 ((63 + (2 * ((up g1 27 (63 + (2 * (g1 27 62))).toNatClampNeg a1) 27 62))) + 1).toNatClampNeg a2) 27 62) + 1) (up (up (up g1 27 (63 + (2 * (g1 27 62))).toNatClampNeg a1) 27 ((63 + (2 * ((up g1 27 (63 + (2 * (g1 27 62))).toNatClampNeg a1) 27 62))) + 1).toNatClampNeg a2) 27 62 (((up (up g1 27 (63 + (2 * (g1 27 62))).toNatClampNeg a1) 27 ((63 + (2 * ((up g1 27 (63 + (2 * (g1 27 62))).toNatClampNeg a1) 27 62))) + 1).toNatClampNeg a2) 27 62) + 1))))))) ∧ ((g 27 62) = 4 → P (-3) (up g 26 0 0)))) ∧ (¬ (fI (-9) (reqP s a1 a2) (s 62)) = (-9) → P (-2) (up g 26 0 0))))) ∧ ((bi (inR (s 0) a1 && inR (s 0) a2)) = 0 → P (-1) (up g 26 0 0))))) : AW Γ 4 iX7_forbid P 0 [some (.inr 26), some (.inl a1), some (.inl a2)] [] g :=
  (aw_aload_n dX7_forbid_0 rfl (aw_iconst 0 dX7_forbid_1 (by decide) (aw_putf fpX7_32 fa_26_0 (vp_nar_int _) rfl dX7_forbid_2 (aw_aload_n dX7_forbid_5 rfl (aw_iload_n dX7_forbid_6 rfl (aw_iload_n dX7_forbid_7 rfl (aw_callVi lkX7_166 ckX7_areObjects ca_26 rfl (d := 3) (by decide) [.inl a1, .inl a2] rfl rfl (Nat.le_of_ble_eq_true rfl) dX7_forbid_8 rfl (Runs.fn (ct_X7_areObjects h.1) (aw_if_ne 16 dX7_forbid_11 (by decide) (fun c1 => (aw_aload_n dX7_forbid_16 rfl (aw_iload_n dX7_forbid_17 rfl (aw_iload_n dX7_forbid_18 rfl (aw_callVi lkX7_188 ckX7_requirementOf ca_26 rfl (d := 1) (by decide) [.inl a1, .inl a2] rfl rfl (Nat.le_of_ble_eq_true rfl) dX7_forbid_19 rfl (Runs.fn (ct_X7_requirementOf (h.2.1 c1).1) (aw_bipush (-9) dX7_forbid_22 (by decide) (aw_icmp_eq 30 dX7_forbid_24 (by decide) (fun c2 => (aw_aload_n dX7_forbid_30 rfl (aw_getr 27 fkX7_7 fa_26_1 dX7_forbid_31 (aw_bipush 62 dX7_forbid_34 (by decide) (aw_iald aa_27 dX7_forbid_36 (vp_lit 62 (by decide) (by decide)) (aw_iconst 4 dX7_forbid_37 (by decide) (aw_icmp_ne 44 dX7_forbid_38 (by decide) (fun c3 => (aw_aload_n dX7_forbid_44 rfl (aw_callVv lkX7_99 ckX7_save ca_26 rfl (d := 1) (by decide) [] rfl rfl (Nat.le_of_ble_eq_true rfl) dX7_forbid_45 rfl (Runs.mono (((h.2.1 c1).2.1 c2).1 c3) (fun r1 g1 h1_ => (aw_aload_n dX7_forbid_48 rfl (aw_getr 27 fkX7_7 fa_26_1 dX7_forbid_49 (aw_bipush 63 dX7_forbid_52 (by decide) (aw_iconst 2 dX7_forbid_54 (by decide) (aw_aload_n dX7_forbid_55 rfl (aw_getr 27 fkX7_7 fa_26_1 dX7_forbid_56 (aw_bipush 62 dX7_forbid_59 (by decide) (aw_iald aa_27 dX7_forbid_61 (vp_lit 62 (by decide) (by decide)) (aw_imul dX7_forbid_62 (aw_iadd dX7_forbid_63 (aw_iload_n dX7_forbid_64 rfl (aw_iast aa_27 dX7_forbid_65 h1_.1 (aw_aload_n dX7_forbid_66 rfl (aw_getr 27 fkX7_7 fa_26_1 dX7_forbid_67 (aw_bipush 63 dX7_forbid_70 (by decide) (aw_iconst 2 dX7_forbid_72 (by decide) (aw_aload_n dX7_forbid_73 rfl (aw_getr 27 fkX7_7 fa_26_1 dX7_forbid_74 (aw_bipush 62 dX7_forbid_77 (by decide) (aw_iald aa_27 dX7_forbid_79 (vp_lit 62 (by decide) (by decide)) (aw_imul dX7_forbid_80 (aw_iadd dX7_forbid_81 (aw_iconst 1 dX7_forbid_82 (by decide) (aw_iadd dX7_forbid_83 (aw_iload_n dX7_forbid_84 rfl (aw_iast aa_27 dX7_forbid_85 h1_.2.1 (aw_aload_n dX7_forbid_86 rfl (aw_getr 27 fkX7_7 fa_26_1 dX7_forbid_87 (aw_bipush 62 dX7_forbid_90 (by decide) (aw_dup2 dX7_forbid_92 (aw_iald aa_27 dX7_forbid_93 (vp_lit 62 (by decide) (by decide)) (aw_iconst 1 dX7_forbid_94 (by decide) (aw_iadd dX7_forbid_95 (aw_iast aa_27 dX7_forbid_96 (vp_lit 62 (by decide) (by decide)) (aw_aload_n dX7_forbid_97 rfl (aw_getr 27 fkX7_7 fa_26_1 dX7_forbid_98 (aw_bipush 62 dX7_forbid_101 (by decide) (aw_iald aa_27 dX7_forbid_103 (vp_lit 62 (by decide) (by decide)) (aw_iret rfl (vp_nar_int _) dX7_forbid_104 h1_.2.2)))))))))))))))))))))))))))))))))))))))))))) (fun c3 => (aw_bipush (-3) dX7_forbid_41 (by decide) (aw_iret rfl (vp_nar_int _) dX7_forbid_43 (((h.2.1 c1).2.1 c2).2 c3))))))))))) (fun c2 => (aw_bipush (-2) dX7_forbid_27 (by decide) (aw_iret rfl (vp_nar_int _) dX7_forbid_29 ((h.2.1 c1).2.2 c2)))))))))))) (fun c1 => (aw_iconst (-1) dX7_forbid_14 (by decide) (aw_iret rfl (vp_nar_int _) dX7_forbid_15 (h.2.2 c1)))))))))))))
theorem om_forbid {Γ : Gam} {a : Ab} {g : Mem} {x y : Int32} (h : MI a g) (hw : WA a) : Runs Γ 4 yX7_forbid iX7_forbid [.inr 26, .inl x, .inl y] g (OpM (sp_forbid a x y) g) := by
  have hr := hw.1.nq
  unfold sp_forbid
  refine Runs.intro (by decide) rfl (Nat.le_of_ble_eq_true rfl) (sg_X7_forbid_0 a.1 x y ⟨h.thr.s hw, fun c1 => ⟨h.thr.s hw, ?_⟩, fun c1 => ?_⟩)
  · rw [bi_ne0] at c1
    rw [if_pos c1]
    rw [Bool.and_eq_true] at c1
    obtain ⟨x1, x2⟩ := inR_ex c1.1
    obtain ⟨y1, y2⟩ := inR_ex c1.2
    rw [fI_neg (by omega) (by decide), h.1 62 (by decide), show (4 : Int32) = nI 4 from rfl, nI_eq (by omega) (by decide)]
    refine ⟨fun c3 => ⟨fun c4 => (ct_X7_save' h.thr).mono (fun r g1 q => ?_), fun c4 => ?_⟩, fun c3 => ?_⟩
    · have hm : MA 27 a.1 g1 := q.1.1
      rw [if_neg c3, if_neg c4, hm 62 (by decide), n63, ix_nI (by omega), up_nx (by omega), hm 62 (by decide), n63, nI_1, ix_nI (by omega), up_nx (by omega), up_nx (by omega), hm 62 (by decide), nI_1]
      have hm2 : MA 27 (addQ a.1 x.toNatClampNeg y.toNatClampNeg) (up (up (up g1 27 (63 + 2 * a.1 62) x) 27 (63 + 2 * a.1 62 + 1) y) 27 62 (nI (a.1 62 + 1))) := MA.setx (MA.setx (MA.setx hm x2) y2) rfl
      refine ⟨vp_nI (by omega) (by decide), vp_nI (by omega) (by decide), rfl, q.1.row hm2 (fun k hk => by rw [up_ne hk, up_ne hk, up_ne hk]), ((frM_thr g).trans q.2).trans (frM_row (fun k hk => by rw [up_ne hk, up_ne hk, up_ne hk]))⟩
    · rw [if_neg c3, if_pos c4]; exact OpM.same h
    · rw [if_pos (by omega)]; exact OpM.same h
  · rw [bi_eq0] at c1; rw [if_neg (by simp [c1])]; exact OpM.same h
theorem wa_forbid {a : Ab} {x y : Int32} (hw : WA a) : WA (sp_forbid a x y).2 := by
  unfold sp_forbid
  split
  · rename_i c
    rw [Bool.and_eq_true] at c
    split
    · exact hw
    · split
      · exact hw
      · have hr := hw.1.nq
        exact hw.psh (hw.1.addQ (by omega) (inR_ex c.1).1 (inR_ex c.2).1)
  · exact hw
