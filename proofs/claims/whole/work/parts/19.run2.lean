theorem sg_X6_take_0 {Γ : Gam} {P : Int32 → Mem → Prop}  (s : St) (a1 a2 a3 : Int32) {g : Mem} (h : (CW 34 s g ∧ (((bi (isW s a1 2)) = 0 → P (-1) g) ∧ (¬ (bi (isW s a1 2)) = 0 → (CW 34 s g ∧ (((bi (isW s a2 8)) = 0 → P (-1) g) ∧ (¬ (bi (isW s a2 8)) = 0 → (CW 34 s g ∧ ((¬ (bi (inR (s 0) a3)) = 0 → ((CW 34 s g ∧ inR 10 a1 = true) ∧ (((bi (hasB (nI (s (71 + a1.toNatClampNeg))) a2)) = 0 → P (-2) g) ∧ (¬ (bi (hasB (nI (s (71 + a1.toNatClampNeg))) a2)) = 0 → ((CW 34 s g ∧ inR 10 a2 = true) ∧ ((¬ (bi (hasB (nI (s (71 + a2.toNatClampNeg))) a3)) = 0 → (Runs Γ 3 yX6_saveState iX6_saveState [.inr 0] g (fun r1 g1 => (Runs Γ 2 yX4_addToRun iX4_addToRun [.inr 34, .inl a1, .inl (1 <<< (a3 &&& 31))] g1 (fun r2 g2 => P r2 g2))))) ∧ ((bi (hasB (nI (s (71 + a2.toNatClampNeg))) a3)) = 0 → P (-2) g))))))) ∧ ((bi (inR (s 0) a3)) = 0 → P (-1) g)))))))))) : AW Γ 4 iX6_take P 0 [some (.inr 0), some (.inl a1), some (.inl a2), some (.inl a3)] [] g :=
  (aw_aload_n dX6_take_0 rfl (aw_getr 34 fkX6_19 fa_0_1 dX6_take_1 (aw_iload_n dX6_take_4 rfl (aw_iconst 2 dX6_take_5 (by decide) (aw_callVi lkX6_180 ckX4_isAgentWith (cs_ isSt_34) rfl (d := 3) (by decide) [.inl a1, .inl 2] rfl rfl (Nat.le_of_ble_eq_true rfl) dX6_take_6 rfl (Runs.fn ((ct_X4_isAgentWith isSt_34) h.1) (aw_if_eq 36 dX6_take_9 (by decide) (fun c1 => (aw_iconst (-1) dX6_take_36 (by decide) (aw_iret rfl (vp_nar_int _) dX6_take_37 (h.2.1 c1)))) (fun c1 => (aw_aload_n dX6_take_12 rfl (aw_getr 34 fkX6_19 fa_0_1 dX6_take_13 (aw_iload_n dX6_take_16 rfl (aw_bipush 8 dX6_take_17 (by decide) (aw_callVi lkX6_180 ckX4_isAgentWith (cs_ isSt_34) rfl (d := 3) (by decide) [.inl a2, .inl 8] rfl rfl (Nat.le_of_ble_eq_true rfl) dX6_take_19 rfl (Runs.fn ((ct_X4_isAgentWith isSt_34) (h.2.2 c1).1) (aw_if_eq 36 dX6_take_22 (by decide) (fun c2 => (aw_iconst (-1) dX6_take_36 (by decide) (aw_iret rfl (vp_nar_int _) dX6_take_37 ((h.2.2 c1).2.1 c2)))) (fun c2 => (aw_aload_n dX6_take_25 rfl (aw_getr 34 fkX6_19 fa_0_1 dX6_take_26 (aw_iload_n dX6_take_29 rfl (aw_callVi lkX6_86 ckX4_has (cs_ isSt_34) rfl (d := 1) (by decide) [.inl a3] rfl rfl (Nat.le_of_ble_eq_true rfl) dX6_take_30 rfl (Runs.fn ((ct_X4_has isSt_34) ((h.2.2 c1).2.2 c2).1) (aw_if_ne 38 dX6_take_33 (by decide) (fun c3 => (aw_aload_n dX6_take_38 rfl (aw_getr 34 fkX6_19 fa_0_1 dX6_take_39 (aw_iload_n dX6_take_42 rfl (aw_iload_n dX6_take_43 rfl (aw_callVi lkX6_183 ckX4_runHolds (cs_ isSt_34) rfl (d := 2) (by decide) [.inl a1, .inl a2] rfl rfl (Nat.le_of_ble_eq_true rfl) dX6_take_44 rfl (Runs.fn ((ct_X4_runHolds isSt_34) (((h.2.2 c1).2.2 c2).2.1 c3).1) (aw_if_eq 62 dX6_take_47 (by decide) (fun c4 => (aw_bipush (-2) dX6_take_62 (by decide) (aw_iret rfl (vp_nar_int _) dX6_take_64 ((((h.2.2 c1).2.2 c2).2.1 c3).2.1 c4)))) (fun c4 => (aw_aload_n dX6_take_50 rfl (aw_getr 34 fkX6_19 fa_0_1 dX6_take_51 (aw_iload_n dX6_take_54 rfl (aw_iload_n dX6_take_55 rfl (aw_callVi lkX6_183 ckX4_runHolds (cs_ isSt_34) rfl (d := 2) (by decide) [.inl a2, .inl a3] rfl rfl (Nat.le_of_ble_eq_true rfl) dX6_take_56 rfl (Runs.fn ((ct_X4_runHolds isSt_34) ((((h.2.2 c1).2.2 c2).2.1 c3).2.2 c4).1) (aw_if_ne 65 dX6_take_59 (by decide) (fun c5 => (aw_aload_n dX6_take_65 rfl (aw_callVv lkX6_73 ckX6_saveState ca_0 rfl (d := 3) (by decide) [] rfl rfl (Nat.le_of_ble_eq_true rfl) dX6_take_66 rfl (Runs.mono (((((h.2.2 c1).2.2 c2).2.1 c3).2.2 c4).2.1 c5) (fun r1 g1 h1_ => (aw_aload_n dX6_take_69 rfl (aw_getr 34 fkX6_19 fa_0_1 dX6_take_70 (aw_iload_n dX6_take_73 rfl (aw_iload_n dX6_take_74 rfl (aw_callSi lkX6_186 ckX6_bit (d := 1) (by decide) [.inl a3] rfl rfl (Nat.le_of_ble_eq_true rfl) dX6_take_75 rfl (Runs.fn ct_X6_bit (aw_callVi lkX6_189 ckX4_addToRun (cs_ isSt_34) rfl (d := 2) (by decide) [.inl a1, .inl (1 <<< (a3 &&& 31))] rfl rfl (Nat.le_of_ble_eq_true rfl) dX6_take_78 rfl (Runs.mono h1_ (fun r2 g2 h2_ => (aw_iret rfl (vp_nar_int _) dX6_take_81 h2_))))))))))))))) (fun c5 => (aw_bipush (-2) dX6_take_62 (by decide) (aw_iret rfl (vp_nar_int _) dX6_take_64 (((((h.2.2 c1).2.2 c2).2.1 c3).2.2 c4).2.2 c5)))))))))))))))))))) (fun c3 => (aw_iconst (-1) dX6_take_36 (by decide) (aw_iret rfl (vp_nar_int _) dX6_take_37 (((h.2.2 c1).2.2 c2).2.2 c3))))))))))))))))))))))))))
theorem oc_take {Γ : Gam} {a : Ab} {g : Mem} {x y z : Int32} (h : CI a g) (hw : WA a) : Runs Γ 4 yX6_take iX6_take [.inr 0, .inl x, .inl y, .inl z] g (OpC (sp_take a x y z) g) := by
  have hn := hw.1.n
  unfold sp_take
  refine Runs.intro (by decide) rfl (Nat.le_of_ble_eq_true rfl) (sg_X6_take_0 a.1 x y z ⟨h.s hw, fun c1 => ?_, fun c1 => ⟨h.s hw, fun c2 => ?_, fun c2 => ⟨h.s hw, fun c3 => ?_, fun c3 => ?_⟩⟩⟩)
  · rw [bi_eq0] at c1; rw [if_neg (by simp [c1])]; exact OpC.same h
  · rw [bi_eq0] at c2; rw [if_neg (by simp [c2])]; exact OpC.same h
  · rw [bi_ne0] at c1 c2 c3
    obtain ⟨x1, x2⟩ := inR_ex (isW_r c1)
    obtain ⟨z1, z2⟩ := inR_ex c3
    rw [if_pos (by simp [c1, c2, c3])]
    refine ⟨⟨h.s hw, inR_10 hw.1 (isW_r c1)⟩, fun c4 => ?_, fun c4 => ⟨⟨h.s hw, inR_10 hw.1 (isW_r c2)⟩, fun c5 => ?_, fun c5 => ?_⟩⟩
    · rw [bi_eq0] at c4; rw [if_neg (by simp [c4])]; exact OpC.same h
    · rw [bi_ne0] at c4 c5
      rw [if_pos (by simp [c4, c5])]
      refine (ct_X6_saveState h hw).mono (fun r g1 q => ?_)
      have := oc_hold (Γ := Γ) (y := x.toNatClampNeg) (z := z.toNatClampNeg) h hw (by omega) (by omega) q
      rw [← x2, ← z2] at this
      exact this
    · rw [bi_eq0] at c5; rw [if_neg (by simp [c5])]; exact OpC.same h
  · rw [bi_eq0] at c3; rw [if_neg (by simp [c3])]; exact OpC.same h
theorem sg_X7_take__0 {Γ : Gam} {P : Int32 → Mem → Prop}  (s : St) (a1 a2 a3 : Int32) {g : Mem} (h : (MW 27 s (up g 26 0 0) ∧ (((bi (isW s a1 2)) = 0 → P (-1) (up g 26 0 0)) ∧ (¬ (bi (isW s a1 2)) = 0 → (MW 27 s (up g 26 0 0) ∧ (((bi (isW s a2 8)) = 0 → P (-1) (up g 26 0 0)) ∧ (¬ (bi (isW s a2 8)) = 0 → (MW 27 s (up g 26 0 0) ∧ ((¬ (bi (inR (s 0) a3)) = 0 → ((MW 27 s (up g 26 0 0) ∧ inR 10 a1 = true) ∧ (((bi (hasB (nI (s (71 + a1.toNatClampNeg))) a2)) = 0 → P (-2) (up g 26 0 0)) ∧ (¬ (bi (hasB (nI (s (71 + a1.toNatClampNeg))) a2)) = 0 → ((MW 27 s (up g 26 0 0) ∧ inR 10 a2 = true) ∧ (((bi (hasB (nI (s (71 + a2.toNatClampNeg))) a3)) = 0 → P (-2) (up g 26 0 0)) ∧ (¬ (bi (hasB (nI (s (71 + a2.toNatClampNeg))) a3)) = 0 → (Runs Γ 3 yX7_saveAndHold iX7_saveAndHold [.inr 26, .inl a1, .inl a3] (up g 26 0 0) (fun r1 g1 => P r1 g1))))))))) ∧ ((bi (inR (s 0) a3)) = 0 → P (-1) (up g 26 0 0))))))))))) : AW Γ 5 iX7_take_ P 0 [some (.inr 26), some (.inl a1), some (.inl a2), some (.inl a3)] [] g :=
  (aw_aload_n dX7_take__0 rfl (aw_iconst 0 dX7_take__1 (by decide) (aw_putf fpX7_32 fa_26_0 (vp_nar_int _) rfl dX7_take__2 (aw_aload_n dX7_take__5 rfl (aw_iload_n dX7_take__6 rfl (aw_iconst 2 dX7_take__7 (by decide) (aw_callVi lkX7_119 ckX7_does ca_26 rfl (d := 4) (by decide) [.inl a1, .inl 2] rfl rfl (Nat.le_of_ble_eq_true rfl) dX7_take__8 rfl (Runs.fn (ct_X7_does h.1) (aw_if_eq 32 dX7_take__11 (by decide) (fun c1 => (aw_iconst (-1) dX7_take__32 (by decide) (aw_iret rfl (vp_nar_int _) dX7_take__33 (h.2.1 c1)))) (fun c1 => (aw_aload_n dX7_take__14 rfl (aw_iload_n dX7_take__15 rfl (aw_bipush 8 dX7_take__16 (by decide) (aw_callVi lkX7_119 ckX7_does ca_26 rfl (d := 4) (by decide) [.inl a2, .inl 8] rfl rfl (Nat.le_of_ble_eq_true rfl) dX7_take__18 rfl (Runs.fn (ct_X7_does (h.2.2 c1).1) (aw_if_eq 32 dX7_take__21 (by decide) (fun c2 => (aw_iconst (-1) dX7_take__32 (by decide) (aw_iret rfl (vp_nar_int _) dX7_take__33 ((h.2.2 c1).2.1 c2)))) (fun c2 => (aw_aload_n dX7_take__24 rfl (aw_iload_n dX7_take__25 rfl (aw_callVi lkX7_108 ckX7_isObject ca_26 rfl (d := 2) (by decide) [.inl a3] rfl rfl (Nat.le_of_ble_eq_true rfl) dX7_take__26 rfl (Runs.fn (ct_X7_isObject ((h.2.2 c1).2.2 c2).1) (aw_if_ne 34 dX7_take__29 (by decide) (fun c3 => (aw_aload_n dX7_take__34 rfl (aw_iload_n dX7_take__35 rfl (aw_iload_n dX7_take__36 rfl (aw_callVi lkX7_197 ckX7_holds ca_26 rfl (d := 2) (by decide) [.inl a1, .inl a2] rfl rfl (Nat.le_of_ble_eq_true rfl) dX7_take__37 rfl (Runs.fn (ct_X7_holds (((h.2.2 c1).2.2 c2).2.1 c3).1) (aw_if_eq 61 dX7_take__40 (by decide) (fun c4 => (aw_bipush (-2) dX7_take__61 (by decide) (aw_iret rfl (vp_nar_int _) dX7_take__63 ((((h.2.2 c1).2.2 c2).2.1 c3).2.1 c4)))) (fun c4 => (aw_aload_n dX7_take__43 rfl (aw_iload_n dX7_take__44 rfl (aw_iload_n dX7_take__45 rfl (aw_callVi lkX7_197 ckX7_holds ca_26 rfl (d := 2) (by decide) [.inl a2, .inl a3] rfl rfl (Nat.le_of_ble_eq_true rfl) dX7_take__46 rfl (Runs.fn (ct_X7_holds ((((h.2.2 c1).2.2 c2).2.1 c3).2.2 c4).1) (aw_if_eq 61 dX7_take__49 (by decide) (fun c5 => (aw_bipush (-2) dX7_take__61 (by decide) (aw_iret rfl (vp_nar_int _) dX7_take__63 (((((h.2.2 c1).2.2 c2).2.1 c3).2.2 c4).2.1 c5)))) (fun c5 => (aw_aload_n dX7_take__52 rfl (aw_iload_n dX7_take__53 rfl (aw_iload_n dX7_take__54 rfl (aw_callVi lkX7_200 ckX7_saveAndHold ca_26 rfl (d := 3) (by decide) [.inl a1, .inl a3] rfl rfl (Nat.le_of_ble_eq_true rfl) dX7_take__55 rfl (Runs.mono (((((h.2.2 c1).2.2 c2).2.1 c3).2.2 c4).2.2 c5) (fun r1 g1 h1_ => (aw_goto 63 dX7_take__58 (by decide) (aw_iret rfl (vp_nar_int _) dX7_take__63 h1_))))))))))))))))))))))) (fun c3 => (aw_iconst (-1) dX7_take__32 (by decide) (aw_iret rfl (vp_nar_int _) dX7_take__33 (((h.2.2 c1).2.2 c2).2.2 c3))))))))))))))))))))))))))
theorem om_take {Γ : Gam} {a : Ab} {g : Mem} {x y z : Int32} (h : MI a g) (hw : WA a) : Runs Γ 5 yX7_take_ iX7_take_ [.inr 26, .inl x, .inl y, .inl z] g (OpM (sp_take a x y z) g) := by
  have hn := hw.1.n
  unfold sp_take
  refine Runs.intro (by decide) rfl (Nat.le_of_ble_eq_true rfl) (sg_X7_take__0 a.1 x y z ⟨h.thr.s hw, fun c1 => ?_, fun c1 => ⟨h.thr.s hw, fun c2 => ?_, fun c2 => ⟨h.thr.s hw, fun c3 => ?_, fun c3 => ?_⟩⟩⟩)
  · rw [bi_eq0] at c1; rw [if_neg (by simp [c1])]; exact OpM.same h
  · rw [bi_eq0] at c2; rw [if_neg (by simp [c2])]; exact OpM.same h
  · rw [bi_ne0] at c1 c2 c3
    obtain ⟨x1, x2⟩ := inR_ex (isW_r c1)
    obtain ⟨z1, z2⟩ := inR_ex c3
    rw [if_pos (by simp [c1, c2, c3])]
    refine ⟨⟨h.thr.s hw, inR_10 hw.1 (isW_r c1)⟩, fun c4 => ?_, fun c4 => ⟨⟨h.thr.s hw, inR_10 hw.1 (isW_r c2)⟩, fun c5 => ?_, fun c5 => ?_⟩⟩
    · rw [bi_eq0] at c4; rw [if_neg (by simp [c4])]; exact OpM.same h
    · rw [bi_eq0] at c5; rw [if_neg (by simp [c5])]; exact OpM.same h
    · rw [bi_ne0] at c4 c5
      rw [if_pos (by simp [c4, c5])]
      have fin := om_hold (Γ := Γ) (y := x.toNatClampNeg) (z := z.toNatClampNeg) h.thr (frM_thr g) hw (by omega) (by omega)
      rw [← x2, ← z2] at fin
      exact fin
  · rw [bi_eq0] at c3; rw [if_neg (by simp [c3])]; exact OpM.same h
theorem wa_take {a : Ab} {x y z : Int32} (hw : WA a) : WA (sp_take a x y z).2 := by
  have hn := hw.1.n
  unfold sp_take
  split
  · rename_i c
    simp only [Bool.and_eq_true] at c
    have h1 := (inR_ex (isW_r c.1)).1
    have h2 := (inR_ex c.2.2).1
    split
    · exact wa_hold hw (by omega) (by omega)
    · exact hw
  · exact hw
/-! a box with its key -/
def sp_open (a : Ab) (x b k : Int32) : Int32 × Ab := if isW a.1 x 2 && fitB a.1 k b then (if hasB (nI (a.1 (71 + x.toNatClampNeg))) b && hasB (nI (a.1 (71 + x.toNatClampNeg))) k then sp_hold a x.toNatClampNeg (a.1 (21 + b.toNatClampNeg)) else (-2, a)) else (-1, a)
theorem fit_ex {s : St} (hw : WF s) {k b : Int32} (h : fitB s k b = true) : isK s k 2 = true ∧ isK s b 1 = true ∧ b.toNatClampNeg < s 0 ∧ s (1 + b.toNatClampNeg) = 1 ∧ s (21 + b.toNatClampNeg) < s 0 := by
  simp only [fitB, Bool.and_eq_true] at h
  obtain ⟨h1, h2⟩ := isK_kd hw (k := 1) (by decide) h.1.2
  exact ⟨h.1.1, h.1.2, h1, h2, ((hw.o h1).2.2.2.1 h2).2⟩
theorem sg_X6_open_0 {Γ : Gam} {P : Int32 → Mem → Prop}  (s : St) (a1 a2 a3 : Int32) {g : Mem} (h : (CW 34 s g ∧ (((bi (isW s a1 2)) = 0 → P (-1) g) ∧ (¬ (bi (isW s a1 2)) = 0 → (CW 34 s g ∧ ((¬ (bi (fitB s a3 a2)) = 0 → ((CW 34 s g ∧ inR 10 a1 = true) ∧ (((bi (hasB (nI (s (71 + a1.toNatClampNeg))) a2)) = 0 → P (-2) g) ∧ (¬ (bi (hasB (nI (s (71 + a1.toNatClampNeg))) a2)) = 0 → ((CW 34 s g ∧ inR 10 a1 = true) ∧ ((¬ (bi (hasB (nI (s (71 + a1.toNatClampNeg))) a3)) = 0 → (Runs Γ 3 yX6_saveState iX6_saveState [.inr 0] g (fun r1 g1 => (vp_in a2 10 ∧ (Runs Γ 2 yX4_addToRun iX4_addToRun [.inr 34, .inl a1, .inl (1 <<< ((g1 37 a2.toNatClampNeg) &&& 31))] g1 (fun r2 g2 => P r2 g2)))))) ∧ ((bi (hasB (nI (s (71 + a1.toNatClampNeg))) a3)) = 0 → P (-2) g))))))) ∧ ((bi (fitB s a3 a2)) = 0 → P (-1) g))))))) : AW Γ 4 iX6_open P 0 [some (.inr 0), some (.inl a1), some (.inl a2), some (.inl a3)] [] g :=
  (aw_aload_n dX6_open_0 rfl (aw_getr 34 fkX6_19 fa_0_1 dX6_open_1 (aw_iload_n dX6_open_4 rfl (aw_iconst 2 dX6_open_5 (by decide) (aw_callVi lkX6_180 ckX4_isAgentWith (cs_ isSt_34) rfl (d := 3) (by decide) [.inl a1, .inl 2] rfl rfl (Nat.le_of_ble_eq_true rfl) dX6_open_6 rfl (Runs.fn ((ct_X4_isAgentWith isSt_34) h.1) (aw_if_eq 24 dX6_open_9 (by decide) (fun c1 => (aw_iconst (-1) dX6_open_24 (by decide) (aw_iret rfl (vp_nar_int _) dX6_open_25 (h.2.1 c1)))) (fun c1 => (aw_aload_n dX6_open_12 rfl (aw_getr 34 fkX6_19 fa_0_1 dX6_open_13 (aw_iload_n dX6_open_16 rfl (aw_iload_n dX6_open_17 rfl (aw_callVi lkX6_192 ckX4_fits (cs_ isSt_34) rfl (d := 3) (by decide) [.inl a3, .inl a2] rfl rfl (Nat.le_of_ble_eq_true rfl) dX6_open_18 rfl (Runs.fn ((ct_X4_fits isSt_34) (h.2.2 c1).1) (aw_if_ne 26 dX6_open_21 (by decide) (fun c2 => (aw_aload_n dX6_open_26 rfl (aw_getr 34 fkX6_19 fa_0_1 dX6_open_27 (aw_iload_n dX6_open_30 rfl (aw_iload_n dX6_open_31 rfl (aw_callVi lkX6_183 ckX4_runHolds (cs_ isSt_34) rfl (d := 2) (by decide) [.inl a1, .inl a2] rfl rfl (Nat.le_of_ble_eq_true rfl) dX6_open_32 rfl (Runs.fn ((ct_X4_runHolds isSt_34) ((h.2.2 c1).2.1 c2).1) (aw_if_eq 50 dX6_open_35 (by decide) (fun c3 => (aw_bipush (-2) dX6_open_50 (by decide) (aw_iret rfl (vp_nar_int _) dX6_open_52 (((h.2.2 c1).2.1 c2).2.1 c3)))) (fun c3 => (aw_aload_n dX6_open_38 rfl (aw_getr 34 fkX6_19 fa_0_1 dX6_open_39 (aw_iload_n dX6_open_42 rfl (aw_iload_n dX6_open_43 rfl (aw_callVi lkX6_183 ckX4_runHolds (cs_ isSt_34) rfl (d := 2) (by decide) [.inl a1, .inl a3] rfl rfl (Nat.le_of_ble_eq_true rfl) dX6_open_44 rfl (Runs.fn ((ct_X4_runHolds isSt_34) (((h.2.2 c1).2.1 c2).2.2 c3).1) (aw_if_ne 53 dX6_open_47 (by decide) (fun c4 => (aw_aload_n dX6_open_53 rfl (aw_callVv lkX6_73 ckX6_saveState ca_0 rfl (d := 3) (by decide) [] rfl rfl (Nat.le_of_ble_eq_true rfl) dX6_open_54 rfl (Runs.mono ((((h.2.2 c1).2.1 c2).2.2 c3).2.1 c4) (fun r1 g1 h1_ => (aw_aload_n dX6_open_57 rfl (aw_getr 34 fkX6_19 fa_0_1 dX6_open_58 (aw_iload_n dX6_open_61 rfl (aw_aload_n dX6_open_62 rfl (aw_getr 34 fkX6_19 fa_0_1 dX6_open_63 (aw_getr 37 fkX6_195 (fs_3 isSt_34) dX6_open_66 (aw_iload_n dX6_open_69 rfl (aw_iald (as_3 (b := 34) isSt_34) dX6_open_70 h1_.1 (aw_callSi lkX6_186 ckX6_bit (d := 1) (by decide) [.inl (g1 37 a2.toNatClampNeg)] rfl rfl (Nat.le_of_ble_eq_true rfl) dX6_open_71 rfl (Runs.fn ct_X6_bit (aw_callVi lkX6_189 ckX4_addToRun (cs_ isSt_34) rfl (d := 2) (by decide) [.inl a1, .inl (1 <<< ((g1 37 a2.toNatClampNeg) &&& 31))] rfl rfl (Nat.le_of_ble_eq_true rfl) dX6_open_74 rfl (Runs.mono h1_.2 (fun r2 g2 h2_ => (aw_iret rfl (vp_nar_int _) dX6_open_77 h2_))))))))))))))))))) (fun c4 => (aw_bipush (-2) dX6_open_50 (by decide) (aw_iret rfl (vp_nar_int _) dX6_open_52 ((((h.2.2 c1).2.1 c2).2.2 c3).2.2 c4)))))))))))))))))))) (fun c2 => (aw_iconst (-1) dX6_open_24 (by decide) (aw_iret rfl (vp_nar_int _) dX6_open_25 ((h.2.2 c1).2.2 c2)))))))))))))))))))
theorem oc_open {Γ : Gam} {a : Ab} {g : Mem} {x b k : Int32} (h : CI a g) (hw : WA a) : Runs Γ 4 yX6_open iX6_open [.inr 0, .inl x, .inl b, .inl k] g (OpC (sp_open a x b k) g) := by
  have hn := hw.1.n
  unfold sp_open
  refine Runs.intro (by decide) rfl (Nat.le_of_ble_eq_true rfl) (sg_X6_open_0 a.1 x b k ⟨h.s hw, fun c1 => ?_, fun c1 => ⟨h.s hw, fun c2 => ?_, fun c2 => ?_⟩⟩)
  · rw [bi_eq0] at c1; rw [if_neg (by simp [c1])]; exact OpC.same h
  · rw [bi_ne0] at c1 c2
    obtain ⟨x1, x2⟩ := inR_ex (isW_r c1)
    obtain ⟨k1, b1, b2, b3, b4⟩ := fit_ex hw.1 c2
    rw [if_pos (by simp [c1, c2])]
    refine ⟨⟨h.s hw, inR_10 hw.1 (isW_r c1)⟩, fun c4 => ?_, fun c4 => ⟨⟨h.s hw, inR_10 hw.1 (isW_r c1)⟩, fun c5 => ?_, fun c5 => ?_⟩⟩
    · rw [bi_eq0] at c4; rw [if_neg (by simp [c4])]; exact OpC.same h
    · rw [bi_ne0] at c4 c5
      rw [if_pos (by simp [c4, c5])]
      refine (ct_X6_saveState h hw).mono (fun r g1 q => ⟨vp_inR (isK_in b1).1 hn (by decide), ?_⟩)
      have e : g1 37 b.toNatClampNeg = nI (a.1 (21 + b.toNatClampNeg)) := by
        rw [q.2.2 37 (by decide) (by decide) (by decide)]
        exact (h.1.2.2.2.1 _ b2).1 b3
      rw [e]
      have := oc_hold (Γ := Γ) (y := x.toNatClampNeg) (z := a.1 (21 + b.toNatClampNeg)) h hw (by omega) (by omega) q
      rw [← x2] at this
      exact this
    · rw [bi_eq0] at c5; rw [if_neg (by simp [c5])]; exact OpC.same h
  · rw [bi_eq0] at c2; rw [if_neg (by simp [c2])]; exact OpC.same h
theorem sg_X7_open_0 {Γ : Gam} {P : Int32 → Mem → Prop}  (s : St) (a1 a2 a3 : Int32) {g : Mem} (h : (MW 27 s (up g 26 0 0) ∧ (((bi (isW s a1 2)) = 0 → P (-1) (up g 26 0 0)) ∧ (¬ (bi (isW s a1 2)) = 0 → (MW 27 s (up g 26 0 0) ∧ (((bi (isK s a2 1)) = 0 → P (-1) (up g 26 0 0)) ∧ (¬ (bi (isK s a2 1)) = 0 → (MW 27 s (up g 26 0 0) ∧ (((bi (isK s a3 2)) = 0 → P (-1) (up g 26 0 0)) ∧ (¬ (bi (isK s a3 2)) = 0 → (vp_in (11 + a2) 81 ∧ (vp_in (11 + a3) 81 ∧ (((g 27 (11 + a2).toNatClampNeg) = (g 27 (11 + a3).toNatClampNeg) → ((MW 27 s (up g 26 0 0) ∧ inR 10 a1 = true) ∧ (((bi (hasB (nI (s (71 + a1.toNatClampNeg))) a2)) = 0 → P (-2) (up g 26 0 0)) ∧ (¬ (bi (hasB (nI (s (71 + a1.toNatClampNeg))) a2)) = 0 → ((MW 27 s (up g 26 0 0) ∧ inR 10 a1 = true) ∧ (((bi (hasB (nI (s (71 + a1.toNatClampNeg))) a3)) = 0 → P (-2) (up g 26 0 0)) ∧ (¬ (bi (hasB (nI (s (71 + a1.toNatClampNeg))) a3)) = 0 → (vp_in (21 + a2) 81 ∧ (Runs Γ 3 yX7_saveAndHold iX7_saveAndHold [.inr 26, .inl a1, .inl (g 27 (21 + a2).toNatClampNeg)] (up g 26 0 0) (fun r1 g1 => P r1 g1)))))))))) ∧ (¬ (g 27 (11 + a2).toNatClampNeg) = (g 27 (11 + a3).toNatClampNeg) → P (-1) (up g 26 0 0))))))))))))))) : AW Γ 5 iX7_open P 0 [some (.inr 26), some (.inl a1), some (.inl a2), some (.inl a3)] [] g :=
  (aw_aload_n dX7_open_0 rfl (aw_iconst 0 dX7_open_1 (by decide) (aw_putf fpX7_32 fa_26_0 (vp_nar_int _) rfl dX7_open_2 (aw_aload_n dX7_open_5 rfl (aw_iload_n dX7_open_6 rfl (aw_iconst 2 dX7_open_7 (by decide) (aw_callVi lkX7_119 ckX7_does ca_26 rfl (d := 4) (by decide) [.inl a1, .inl 2] rfl rfl (Nat.le_of_ble_eq_true rfl) dX7_open_8 rfl (Runs.fn (ct_X7_does h.1) (aw_if_eq 53 dX7_open_11 (by decide) (fun c1 => (aw_iconst (-1) dX7_open_53 (by decide) (aw_iret rfl (vp_nar_int _) dX7_open_54 (h.2.1 c1)))) (fun c1 => (aw_aload_n dX7_open_14 rfl (aw_iload_n dX7_open_15 rfl (aw_iconst 1 dX7_open_16 (by decide) (aw_callVi lkX7_112 ckX7_isOf ca_26 rfl (d := 3) (by decide) [.inl a2, .inl 1] rfl rfl (Nat.le_of_ble_eq_true rfl) dX7_open_17 rfl (Runs.fn (ct_X7_isOf (h.2.2 c1).1) (aw_if_eq 53 dX7_open_20 (by decide) (fun c2 => (aw_iconst (-1) dX7_open_53 (by decide) (aw_iret rfl (vp_nar_int _) dX7_open_54 ((h.2.2 c1).2.1 c2)))) (fun c2 => (aw_aload_n dX7_open_23 rfl (aw_iload_n dX7_open_24 rfl (aw_iconst 2 dX7_open_25 (by decide) (aw_callVi lkX7_112 ckX7_isOf ca_26 rfl (d := 3) (by decide) [.inl a3, .inl 2] rfl rfl (Nat.le_of_ble_eq_true rfl) dX7_open_26 rfl (Runs.fn (ct_X7_isOf ((h.2.2 c1).2.2 c2).1) (aw_if_eq 53 dX7_open_29 (by decide) (fun c3 => (aw_iconst (-1) dX7_open_53 (by decide) (aw_iret rfl (vp_nar_int _) dX7_open_54 (((h.2.2 c1).2.2 c2).2.1 c3)))) (fun c3 => (aw_aload_n dX7_open_32 rfl (aw_getr 27 fkX7_7 fa_26_1 dX7_open_33 (aw_bipush 11 dX7_open_36 (by decide) (aw_iload_n dX7_open_38 rfl (aw_iadd dX7_open_39 (aw_iald aa_27 dX7_open_40 (((h.2.2 c1).2.2 c2).2.2 c3).1 (aw_aload_n dX7_open_41 rfl (aw_getr 27 fkX7_7 fa_26_1 dX7_open_42 (aw_bipush 11 dX7_open_45 (by decide) (aw_iload_n dX7_open_47 rfl (aw_iadd dX7_open_48 (aw_iald aa_27 dX7_open_49 (((h.2.2 c1).2.2 c2).2.2 c3).2.1 (aw_icmp_eq 55 dX7_open_50 (by decide) (fun c4 => (aw_aload_n dX7_open_55 rfl (aw_iload_n dX7_open_56 rfl (aw_iload_n dX7_open_57 rfl (aw_callVi lkX7_197 ckX7_holds ca_26 rfl (d := 2) (by decide) [.inl a1, .inl a2] rfl rfl (Nat.le_of_ble_eq_true rfl) dX7_open_58 rfl (Runs.fn (ct_X7_holds ((((h.2.2 c1).2.2 c2).2.2 c3).2.2.1 c4).1) (aw_if_eq 90 dX7_open_61 (by decide) (fun c5 => (aw_bipush (-2) dX7_open_90 (by decide) (aw_iret rfl (vp_nar_int _) dX7_open_92 (((((h.2.2 c1).2.2 c2).2.2 c3).2.2.1 c4).2.1 c5)))) (fun c5 => (aw_aload_n dX7_open_64 rfl (aw_iload_n dX7_open_65 rfl (aw_iload_n dX7_open_66 rfl (aw_callVi lkX7_197 ckX7_holds ca_26 rfl (d := 2) (by decide) [.inl a1, .inl a3] rfl rfl (Nat.le_of_ble_eq_true rfl) dX7_open_67 rfl (Runs.fn (ct_X7_holds (((((h.2.2 c1).2.2 c2).2.2 c3).2.2.1 c4).2.2 c5).1) (aw_if_eq 90 dX7_open_70 (by decide) (fun c6 => (aw_bipush (-2) dX7_open_90 (by decide) (aw_iret rfl (vp_nar_int _) dX7_open_92 ((((((h.2.2 c1).2.2 c2).2.2 c3).2.2.1 c4).2.2 c5).2.1 c6)))) (fun c6 => (aw_aload_n dX7_open_73 rfl (aw_iload_n dX7_open_74 rfl (aw_aload_n dX7_open_75 rfl (aw_getr 27 fkX7_7 fa_26_1 dX7_open_76 (aw_bipush 21 dX7_open_79 (by decide) (aw_iload_n dX7_open_81 rfl (aw_iadd dX7_open_82 (aw_iald aa_27 dX7_open_83 ((((((h.2.2 c1).2.2 c2).2.2 c3).2.2.1 c4).2.2 c5).2.2 c6).1 (aw_callVi lkX7_200 ckX7_saveAndHold ca_26 rfl (d := 3) (by decide) [.inl a1, .inl (g 27 (21 + a2).toNatClampNeg)] rfl rfl (Nat.le_of_ble_eq_true rfl) dX7_open_84 rfl (Runs.mono ((((((h.2.2 c1).2.2 c2).2.2 c3).2.2.1 c4).2.2 c5).2.2 c6).2 (fun r1 g1 h1_ => (aw_goto 92 dX7_open_87 (by decide) (aw_iret rfl (vp_nar_int _) dX7_open_92 h1_)))))))))))))))))))))))))))) (fun c4 => (aw_iconst (-1) dX7_open_53 (by decide) (aw_iret rfl (vp_nar_int _) dX7_open_54 ((((h.2.2 c1).2.2 c2).2.2 c3).2.2.2 c4)))))))))))))))))))))))))))))))))))))))))
theorem om_open {Γ : Gam} {a : Ab} {g : Mem} {x b k : Int32} (h : MI a g) (hw : WA a) : Runs Γ 5 yX7_open iX7_open [.inr 26, .inl x, .inl b, .inl k] g (OpM (sp_open a x b k) g) := by
  have hn := hw.1.n
  unfold sp_open
  refine Runs.intro (by decide) rfl (Nat.le_of_ble_eq_true rfl) (sg_X7_open_0 a.1 x b k ⟨h.thr.s hw, fun c1 => ?_, fun c1 => ⟨h.thr.s hw, fun c2 => ?_, fun c2 => ⟨h.thr.s hw, fun c3 => ?_, fun c3 => ?_⟩⟩⟩)
  · rw [bi_eq0] at c1; rw [if_neg (by simp [c1])]; exact OpM.same h
  · rw [bi_eq0] at c2; rw [if_neg (by simp [fitB, c2])]; exact OpM.same h
  · rw [bi_eq0] at c3; rw [if_neg (by simp [fitB, c3])]; exact OpM.same h
  · rw [bi_ne0] at c1 c2 c3
    obtain ⟨x1, x2⟩ := inR_ex (isW_r c1)
    obtain ⟨b2, b3⟩ := isK_kd hw.1 (k := 1) (by decide) c2
    obtain ⟨k2, k3⟩ := isK_kd hw.1 (k := 2) (by decide) c3
    have b4 := ((hw.1.o b2).2.2.2.1 b3).2
    obtain ⟨p1, e1⟩ := (h.s hw).ix (isK_in c2).1 11 (by decide)
    obtain ⟨p2, e2⟩ := (h.s hw).ix (isK_in c3).1 11 (by decide)
    obtain ⟨p3, e3⟩ := (h.s hw).ix (isK_in c2).1 21 (by decide)
    have f1 := hw.1.fi b2
    have f2 := hw.1.fi k2
    refine ⟨p1, p2, ?_⟩
    rw [show (11 : Int32) + b = nI 11 + b from rfl, show (11 : Int32) + k = nI 11 + k from rfl, show (21 : Int32) + b = nI 21 + b from rfl, e1, e2, e3, nI_eq (by omega) (by omega)]
    refine ⟨fun c6 => ?_, fun c6 => ?_⟩
    · rw [if_pos (by simp [fitB, c1, c2, c3, c6])]
      refine ⟨⟨h.thr.s hw, inR_10 hw.1 (isW_r c1)⟩, fun c4 => ?_, fun c4 => ⟨⟨h.thr.s hw, inR_10 hw.1 (isW_r c1)⟩, fun c5 => ?_, fun c5 => ?_⟩⟩
      · rw [bi_eq0] at c4; rw [if_neg (by simp [c4])]; exact OpM.same h
      · rw [bi_eq0] at c5; rw [if_neg (by simp [c5])]; exact OpM.same h
      · rw [bi_ne0] at c4 c5
        rw [if_pos (by simp [c4, c5])]
        have fin := om_hold (Γ := Γ) (y := x.toNatClampNeg) (z := a.1 (21 + b.toNatClampNeg)) h.thr (frM_thr g) hw (by omega) (by omega)
        rw [← x2] at fin
        exact ⟨p3, fin⟩
    · rw [if_neg (by simp [fitB]; intro _ _ _ q; exact c6 q.symm)]; exact OpM.same h
theorem wa_open {a : Ab} {x b k : Int32} (hw : WA a) : WA (sp_open a x b k).2 := by
  have hn := hw.1.n
  unfold sp_open
  split
  · rename_i c
    simp only [Bool.and_eq_true] at c
    have h1 := (inR_ex (isW_r c.1)).1
    obtain ⟨k1, b1, b2, b3, b4⟩ := fit_ex hw.1 c.2
    split
    · exact wa_hold hw (by omega) (by omega)
    · exact hw
  · exact hw
/-! a factory -/
def cr1 (s : St) (x f : Nat) : St := sset s (71 + x) (s (71 + x) ||| 2 ^ s (11 + f))
def cr2 (s : St) (x f : Nat) : St := sset (cr1 s x f) (71 + s (11 + f)) (cr1 s x f (71 + s (11 + f)) ||| cr1 s x f (71 + f))
def sp_create (a : Ab) (x f : Int32) : Int32 × Ab := if isW a.1 x 2 && isK a.1 f 3 then (if hasB (nI (a.1 (71 + x.toNatClampNeg))) f then (nI ((if (a.1 (71 + x.toNatClampNeg)).testBit (a.1 (11 + f.toNatClampNeg)) then 0 else 1) + pop (dif (cr1 a.1 x.toNatClampNeg f.toNatClampNeg (71 + f.toNatClampNeg)) (cr1 a.1 x.toNatClampNeg f.toNatClampNeg (71 + a.1 (11 + f.toNatClampNeg)))) 10), (cr2 a.1 x.toNatClampNeg f.toNatClampNeg, push a.2.1 a.1, a.2.2.1, a.2.2.2)) else (-2, a)) else (-1, a)
theorem WF.cr1 {s : St} (hw : WF s) {x f : Nat} (hx : x < 10) (hp : s (11 + f) < 10) : WF (cr1 s x f) := hw.run hx (or_lt (hw.rn hx) (bit_lt hp))
theorem WF.cr2 {s : St} (hw : WF s) {x f : Nat} (hx : x < 10) (hp : s (11 + f) < 10) (hf : f < 10) : WF (cr2 s x f) := (hw.cr1 hx hp).run hp (or_lt ((hw.cr1 hx hp).rn hp) ((hw.cr1 hx hp).rn hf))
theorem sg_X6_create_0 {Γ : Gam} {P : Int32 → Mem → Prop}  (s : St) (a1 a2 : Int32) {g : Mem} (h : (CW 34 s g ∧ (((bi (isW s a1 2)) = 0 → P (-1) g) ∧ (¬ (bi (isW s a1 2)) = 0 → (CW 34 s g ∧ ((¬ (bi (isK s a2 3)) = 0 → ((CW 34 s g ∧ inR 10 a1 = true) ∧ ((¬ (bi (hasB (nI (s (71 + a1.toNatClampNeg))) a2)) = 0 → (Runs Γ 3 yX6_saveState iX6_saveState [.inr 0] g (fun r1 g1 => (vp_in a2 10 ∧ (Runs Γ 2 yX4_addToRun iX4_addToRun [.inr 34, .inl a1, .inl (1 <<< ((g1 37 a2.toNatClampNeg) &&& 31))] g1 (fun r2 g2 => (vp_in a2 10 ∧ (Runs Γ 2 yX4_addToRun iX4_addToRun [.inr 34, .inl (g1 37 a2.toNatClampNeg), .inl (g2 43 a2.toNatClampNeg)] g2 (fun r3 g3 => P (r2 + r3) g3))))))))) ∧ ((bi (hasB (nI (s (71 + a1.toNatClampNeg))) a2)) = 0 → P (-2) g)))) ∧ ((bi (isK s a2 3)) = 0 → P (-1) g))))))) : AW Γ 4 iX6_create P 0 [some (.inr 0), some (.inl a1), some (.inl a2)] [] g :=
  (aw_aload_n dX6_create_0 rfl (aw_getr 34 fkX6_19 fa_0_1 dX6_create_1 (aw_iload_n dX6_create_4 rfl (aw_iconst 2 dX6_create_5 (by decide) (aw_callVi lkX6_180 ckX4_isAgentWith (cs_ isSt_34) rfl (d := 3) (by decide) [.inl a1, .inl 2] rfl rfl (Nat.le_of_ble_eq_true rfl) dX6_create_6 rfl (Runs.fn ((ct_X4_isAgentWith isSt_34) h.1) (aw_if_eq 24 dX6_create_9 (by decide) (fun c1 => (aw_iconst (-1) dX6_create_24 (by decide) (aw_iret rfl (vp_nar_int _) dX6_create_25 (h.2.1 c1)))) (fun c1 => (aw_aload_n dX6_create_12 rfl (aw_getr 34 fkX6_19 fa_0_1 dX6_create_13 (aw_iload_n dX6_create_16 rfl (aw_iconst 3 dX6_create_17 (by decide) (aw_callVi lkX6_198 ckX4_isOfKind (cs_ isSt_34) rfl (d := 2) (by decide) [.inl a2, .inl 3] rfl rfl (Nat.le_of_ble_eq_true rfl) dX6_create_18 rfl (Runs.fn ((ct_X4_isOfKind isSt_34) (h.2.2 c1).1) (aw_if_ne 26 dX6_create_21 (by decide) (fun c2 => (aw_aload_n dX6_create_26 rfl (aw_getr 34 fkX6_19 fa_0_1 dX6_create_27 (aw_iload_n dX6_create_30 rfl (aw_iload_n dX6_create_31 rfl (aw_callVi lkX6_183 ckX4_runHolds (cs_ isSt_34) rfl (d := 2) (by decide) [.inl a1, .inl a2] rfl rfl (Nat.le_of_ble_eq_true rfl) dX6_create_32 rfl (Runs.fn ((ct_X4_runHolds isSt_34) ((h.2.2 c1).2.1 c2).1) (aw_if_ne 41 dX6_create_35 (by decide) (fun c3 => (aw_aload_n dX6_create_41 rfl (aw_callVv lkX6_73 ckX6_saveState ca_0 rfl (d := 3) (by decide) [] rfl rfl (Nat.le_of_ble_eq_true rfl) dX6_create_42 rfl (Runs.mono (((h.2.2 c1).2.1 c2).2.1 c3) (fun r1 g1 h1_ => (aw_aload_n dX6_create_45 rfl (aw_getr 34 fkX6_19 fa_0_1 dX6_create_46 (aw_getr 37 fkX6_195 (fs_3 isSt_34) dX6_create_49 (aw_iload_n dX6_create_52 rfl (aw_iald (as_3 (b := 34) isSt_34) dX6_create_53 h1_.1 (aw_istore_n [some (.inr 0), some (.inl a1), some (.inl a2), some (.inl (g1 37 a2.toNatClampNeg))] dX6_create_54 (by decide) rfl (aw_aload_n dX6_create_55 rfl (aw_getr 34 fkX6_19 fa_0_1 dX6_create_56 (aw_iload_n dX6_create_59 rfl (aw_iload_n dX6_create_60 rfl (aw_callSi lkX6_186 ckX6_bit (d := 1) (by decide) [.inl (g1 37 a2.toNatClampNeg)] rfl rfl (Nat.le_of_ble_eq_true rfl) dX6_create_61 rfl (Runs.fn ct_X6_bit (aw_callVi lkX6_189 ckX4_addToRun (cs_ isSt_34) rfl (d := 2) (by decide) [.inl a1, .inl (1 <<< ((g1 37 a2.toNatClampNeg) &&& 31))] rfl rfl (Nat.le_of_ble_eq_true rfl) dX6_create_64 rfl (Runs.mono h1_.2 (fun r2 g2 h2_ => (aw_istore [some (.inr 0), some (.inl a1), some (.inl a2), some (.inl (g1 37 a2.toNatClampNeg)), some (.inl r2)] dX6_create_67 (by decide) rfl (aw_aload_n dX6_create_69 rfl (aw_getr 34 fkX6_19 fa_0_1 dX6_create_70 (aw_iload_n dX6_create_73 rfl (aw_aload_n dX6_create_74 rfl (aw_getr 34 fkX6_19 fa_0_1 dX6_create_75 (aw_getr 43 fkX6_201 (fs_11 isSt_34) dX6_create_78 (aw_iload_n dX6_create_81 rfl (aw_iald (as_9 (b := 34) isSt_34) dX6_create_82 h2_.1 (aw_callVi lkX6_189 ckX4_addToRun (cs_ isSt_34) rfl (d := 2) (by decide) [.inl (g1 37 a2.toNatClampNeg), .inl (g2 43 a2.toNatClampNeg)] rfl rfl (Nat.le_of_ble_eq_true rfl) dX6_create_83 rfl (Runs.mono h2_.2 (fun r3 g3 h3_ => (aw_istore [some (.inr 0), some (.inl a1), some (.inl a2), some (.inl (g1 37 a2.toNatClampNeg)), some (.inl r2), some (.inl r3)] dX6_create_86 (by decide) rfl (aw_iload dX6_create_88 rfl (aw_iload dX6_create_90 rfl (aw_iadd dX6_create_92 (aw_iret rfl (vp_nar_int _) dX6_create_93 h3_))))))))))))))))))))))))))))))))))))) (fun c3 => (aw_bipush (-2) dX6_create_38 (by decide) (aw_iret rfl (vp_nar_int _) dX6_create_40 (((h.2.2 c1).2.1 c2).2.2 c3)))))))))))) (fun c2 => (aw_iconst (-1) dX6_create_24 (by decide) (aw_iret rfl (vp_nar_int _) dX6_create_25 ((h.2.2 c1).2.2 c2)))))))))))))))))))
theorem oc_create {Γ : Gam} {a : Ab} {g : Mem} {x f : Int32} (h : CI a g) (hw : WA a) : Runs Γ 4 yX6_create iX6_create [.inr 0, .inl x, .inl f] g (OpC (sp_create a x f) g) := by
  have hn := hw.1.n
  unfold sp_create
  refine Runs.intro (by decide) rfl (Nat.le_of_ble_eq_true rfl) (sg_X6_create_0 a.1 x f ⟨h.s hw, fun c1 => ?_, fun c1 => ⟨h.s hw, fun c2 => ?_, fun c2 => ?_⟩⟩)
  · rw [bi_eq0] at c1; rw [if_neg (by simp [c1])]; exact OpC.same h
  · rw [bi_ne0] at c1 c2
    obtain ⟨x1, x2⟩ := inR_ex (isW_r c1)
    obtain ⟨f1, f2⟩ := isK_kd hw.1 (k := 3) (by decide) c2
    have f3 := ((hw.1.o f1).2.2.2.2.2 f2).1
    rw [if_pos (by simp [c1, c2])]
    refine ⟨⟨h.s hw, inR_10 hw.1 (isW_r c1)⟩, fun c4 => ?_, fun c4 => ?_⟩
    · rw [bi_ne0] at c4
      rw [if_pos c4]
      refine (ct_X6_saveState h hw).mono (fun r g1 q => ⟨vp_inR (isK_in c2).1 hn (by decide), ?_⟩)
      obtain ⟨q1, q2, q3⟩ := q
      have e : g1 37 f.toNatClampNeg = nI (a.1 (11 + f.toNatClampNeg)) := by
        rw [q3 37 (by decide) (by decide) (by decide)]
        exact (h.1.2.2.2.1 _ f1).2 f2
      have hc1 : CS 34 a.1 g1 := h.1.ext (fun k k1 k2 => q3 k (by omega) (by omega) (by omega))
      have hc2 : CS 34 (cr1 a.1 x.toNatClampNeg f.toNatClampNeg) (up g1 43 x.toNatClampNeg (nI (a.1 (71 + x.toNatClampNeg) ||| 2 ^ a.1 (11 + f.toNatClampNeg)))) := CS.run hw.1 hc1 (by omega)
      have hw2 := hw.1.cr1 (x := x.toNatClampNeg) (f := f.toNatClampNeg) (by omega) (by omega)
      have r1 := ct_X4_addToRun (Γ := Γ) (y := x.toNatClampNeg) (m := 2 ^ a.1 (11 + f.toNatClampNeg)) ⟨hc1, hw.1⟩ (by omega) (bit_lt (by omega))
      rw [← x2] at r1
      rw [e, bit_nI (by omega)]
      refine Runs.fn r1 ⟨vp_inR (isK_in c2).1 hn (by decide), ?_⟩
      have e2 : up g1 43 x.toNatClampNeg (nI (a.1 (71 + x.toNatClampNeg) ||| 2 ^ a.1 (11 + f.toNatClampNeg))) 43 f.toNatClampNeg = nI (cr1 a.1 x.toNatClampNeg f.toNatClampNeg (71 + f.toNatClampNeg)) := hc2.2.2.2.2.2.2.2.2.2 _ (by omega)
      rw [e2]
      refine Runs.fn (ct_X4_addToRun (Γ := Γ) ⟨hc2, hw2⟩ (by omega) (hw2.rn (by omega))) ?_
      rw [pop_dif (by omega), nI_add]
      exact h.kept q1 q2 q3 (CS.run hw2 hc2 (by omega)) (fun k hk => by rw [up_ne (by omega), up_ne (by omega)])
    · rw [bi_eq0] at c4; rw [if_neg (by simp [c4])]; exact OpC.same h
  · rw [bi_eq0] at c2; rw [if_neg (by simp [c2])]; exact OpC.same h
theorem sg_X7_create_0 {Γ : Gam} {P : Int32 → Mem → Prop}  (s : St) (a1 a2 : Int32) {g : Mem} (h : (MW 27 s (up g 26 0 0) ∧ (((bi (isW s a1 2)) = 0 → P (-1) (up g 26 0 0)) ∧ (¬ (bi (isW s a1 2)) = 0 → (MW 27 s (up g 26 0 0) ∧ ((¬ (bi (isK s a2 3)) = 0 → ((MW 27 s (up g 26 0 0) ∧ inR 10 a1 = true) ∧ ((¬ (bi (hasB (nI (s (71 + a1.toNatClampNeg))) a2)) = 0 → (vp_in (11 + a2) 81 ∧ (Runs Γ 3 yX7_saveAndHold iX7_saveAndHold [.inr 26, .inl a1, .inl (g 27 (11 + a2).toNatClampNeg)] (up g 26 0 0) (fun r1 g1 => (vp_in (71 + a2) 81 ∧ (vp_in (71 + (g 27 (11 + a2).toNatClampNeg)) 81 ∧ (Runs Γ 1 yX7_bitCount iX7_bitCount [.inl ((g1 27 (71 + a2).toNatClampNeg) &&& ((g1 27 (71 + (g 27 (11 + a2).toNatClampNeg)).toNatClampNeg) ^^^ (-1)))] g1 (fun r2 g2 => (vp_in (71 + (g 27 (11 + a2).toNatClampNeg)) 81 ∧ (vp_in (71 + a2) 81 ∧ (vp_in (71 + (g 27 (11 + a2).toNatClampNeg)) 81 ∧ P (r1 + r2) (up g2 27 (71 + (g 27 (11 + a2).toNatClampNeg)).toNatClampNeg ((g2 27 (71 + (g 27 (11 + a2).toNatClampNeg)).toNatClampNeg) ||| (g2 27 (71 + a2).toNatClampNeg)))))))))))))) ∧ ((bi (hasB (nI (s (71 + a1.toNatClampNeg))) a2)) = 0 → P (-2) (up g 26 0 0))))) ∧ ((bi (isK s a2 3)) = 0 → P (-1) (up g 26 0 0)))))))) : AW Γ 5 iX7_create P 0 [some (.inr 26), some (.inl a1), some (.inl a2)] [] g :=
  (aw_aload_n dX7_create_0 rfl (aw_iconst 0 dX7_create_1 (by decide) (aw_putf fpX7_32 fa_26_0 (vp_nar_int _) rfl dX7_create_2 (aw_aload_n dX7_create_5 rfl (aw_iload_n dX7_create_6 rfl (aw_iconst 2 dX7_create_7 (by decide) (aw_callVi lkX7_119 ckX7_does ca_26 rfl (d := 4) (by decide) [.inl a1, .inl 2] rfl rfl (Nat.le_of_ble_eq_true rfl) dX7_create_8 rfl (Runs.fn (ct_X7_does h.1) (aw_if_eq 23 dX7_create_11 (by decide) (fun c1 => (aw_iconst (-1) dX7_create_23 (by decide) (aw_iret rfl (vp_nar_int _) dX7_create_24 (h.2.1 c1)))) (fun c1 => (aw_aload_n dX7_create_14 rfl (aw_iload_n dX7_create_15 rfl (aw_iconst 3 dX7_create_16 (by decide) (aw_callVi lkX7_112 ckX7_isOf ca_26 rfl (d := 3) (by decide) [.inl a2, .inl 3] rfl rfl (Nat.le_of_ble_eq_true rfl) dX7_create_17 rfl (Runs.fn (ct_X7_isOf (h.2.2 c1).1) (aw_if_ne 25 dX7_create_20 (by decide) (fun c2 => (aw_aload_n dX7_create_25 rfl (aw_iload_n dX7_create_26 rfl (aw_iload_n dX7_create_27 rfl (aw_callVi lkX7_197 ckX7_holds ca_26 rfl (d := 2) (by decide) [.inl a1, .inl a2] rfl rfl (Nat.le_of_ble_eq_true rfl) dX7_create_28 rfl (Runs.fn (ct_X7_holds ((h.2.2 c1).2.1 c2).1) (aw_if_ne 37 dX7_create_31 (by decide) (fun c3 => (aw_aload_n dX7_create_37 rfl (aw_getr 27 fkX7_7 fa_26_1 dX7_create_38 (aw_bipush 11 dX7_create_41 (by decide) (aw_iload_n dX7_create_43 rfl (aw_iadd dX7_create_44 (aw_iald aa_27 dX7_create_45 (((h.2.2 c1).2.1 c2).2.1 c3).1 (aw_istore_n [some (.inr 26), some (.inl a1), some (.inl a2), some (.inl (g 27 (11 + a2).toNatClampNeg))] dX7_create_46 (by decide) rfl (aw_aload_n dX7_create_47 rfl (aw_iload_n dX7_create_48 rfl (aw_iload_n dX7_create_49 rfl (aw_callVi lkX7_200 ckX7_saveAndHold ca_26 rfl (d := 3) (by decide) [.inl a1, .inl (g 27 (11 + a2).toNatClampNeg)] rfl rfl (Nat.le_of_ble_eq_true rfl) dX7_create_50 rfl (Runs.mono (((h.2.2 c1).2.1 c2).2.1 c3).2 (fun r1 g1 h1_ => (aw_istore [some (.inr 26), some (.inl a1), some (.inl a2), some (.inl (g 27 (11 + a2).toNatClampNeg)), some (.inl r1)] dX7_create_53 (by decide) rfl (aw_iload dX7_create_55 rfl (aw_aload_n dX7_create_57 rfl (aw_getr 27 fkX7_7 fa_26_1 dX7_create_58 (aw_bipush 71 dX7_create_61 (by decide) (aw_iload_n dX7_create_63 rfl (aw_iadd dX7_create_64 (aw_iald aa_27 dX7_create_65 h1_.1 (aw_aload_n dX7_create_66 rfl (aw_getr 27 fkX7_7 fa_26_1 dX7_create_67 (aw_bipush 71 dX7_create_70 (by decide) (aw_iload_n dX7_create_72 rfl (aw_iadd dX7_create_73 (aw_iald aa_27 dX7_create_74 h1_.2.1 (aw_iconst (-1) dX7_create_75 (by decide) (aw_ixor dX7_create_76 (aw_iand dX7_create_77 (aw_callSi lkX7_194 ckX7_bitCount (d := 1) (by decide) [.inl ((g1 27 (71 + a2).toNatClampNeg) &&& ((g1 27 (71 + (g 27 (11 + a2).toNatClampNeg)).toNatClampNeg) ^^^ (-1)))] rfl rfl (Nat.le_of_ble_eq_true rfl) dX7_create_78 rfl (Runs.mono h1_.2.2 (fun r2 g2 h2_ => (aw_iadd dX7_create_81 (aw_istore [some (.inr 26), some (.inl a1), some (.inl a2), some (.inl (g 27 (11 + a2).toNatClampNeg)), some (.inl (r1 + r2))] dX7_create_82 (by decide) rfl (aw_aload_n dX7_create_84 rfl (aw_getr 27 fkX7_7 fa_26_1 dX7_create_85 (aw_bipush 71 dX7_create_88 (by decide) (aw_iload_n dX7_create_90 rfl (aw_iadd dX7_create_91 (aw_dup2 dX7_create_92 (aw_iald aa_27 dX7_create_93 h2_.1 (aw_aload_n dX7_create_94 rfl (aw_getr 27 fkX7_7 fa_26_1 dX7_create_95 (aw_bipush 71 dX7_create_98 (by decide) (aw_iload_n dX7_create_100 rfl (aw_iadd dX7_create_101 (aw_iald aa_27 dX7_create_102 h2_.2.1 (aw_ior dX7_create_103 (aw_iast aa_27 dX7_create_104 h2_.2.2.1 (aw_iload dX7_create_105 rfl (aw_iret rfl (vp_nar_int _) dX7_create_107 h2_.2.2.2))))))))))))))))))))))))))))))))))))))))))))))))))))) (fun c3 => (aw_bipush (-2) dX7_create_34 (by decide) (aw_iret rfl (vp_nar_int _) dX7_create_36 (((h.2.2 c1).2.1 c2).2.2 c3))))))))))) (fun c2 => (aw_iconst (-1) dX7_create_23 (by decide) (aw_iret rfl (vp_nar_int _) dX7_create_24 ((h.2.2 c1).2.2 c2))))))))))))))))))))
theorem om_create {Γ : Gam} {a : Ab} {g : Mem} {x f : Int32} (h : MI a g) (hw : WA a) : Runs Γ 5 yX7_create iX7_create [.inr 26, .inl x, .inl f] g (OpM (sp_create a x f) g) := by
  have hn := hw.1.n
  unfold sp_create
  refine Runs.intro (by decide) rfl (Nat.le_of_ble_eq_true rfl) (sg_X7_create_0 a.1 x f ⟨h.thr.s hw, fun c1 => ?_, fun c1 => ⟨h.thr.s hw, fun c2 => ?_, fun c2 => ?_⟩⟩)
  · rw [bi_eq0] at c1; rw [if_neg (by simp [c1])]; exact OpM.same h
  · rw [bi_ne0] at c1 c2
    obtain ⟨x1, x2⟩ := inR_ex (isW_r c1)
    obtain ⟨f1, f2⟩ := isK_kd hw.1 (k := 3) (by decide) c2
    have f3 := ((hw.1.o f1).2.2.2.2.2 f2).1
    have f4 := (inR_ex (isK_in c2).1).2
    obtain ⟨p1, e1⟩ := (h.s hw).ix (isK_in c2).1 11 (by decide)
    have e71 : (71 : Int32) + f = nI (71 + f.toNatClampNeg) := by
      conv => lhs; rw [f4]
      exact n71 _
    have hw2 := hw.1.cr1 (x := x.toNatClampNeg) (f := f.toNatClampNeg) (by omega) (by omega)
    rw [if_pos (by simp [c1, c2])]
    rw [show (11 : Int32) + f = nI 11 + f from rfl, e1, e71, n71, ix_nI (by omega), ix_nI (by omega)]
    refine ⟨⟨h.thr.s hw, inR_10 hw.1 (isW_r c1)⟩, fun c4 => ⟨p1, ?_⟩, fun c4 => ?_⟩
    · rw [bi_ne0] at c4
      rw [if_pos c4]
      have r1 := om_hold (Γ := Γ) (y := x.toNatClampNeg) (z := a.1 (11 + f.toNatClampNeg)) h.thr (frM_thr g) hw (by omega) (by omega)
      rw [← x2] at r1
      refine r1.mono (fun r g1 q => ?_)
      obtain ⟨q1, q2, q3⟩ := q
      have hm : MA 27 (cr1 a.1 x.toNatClampNeg f.toNatClampNeg) g1 := q2.1
      have b1 := hw2.rn (i := f.toNatClampNeg) (by omega)
      have b2 := hw2.rn (i := a.1 (11 + f.toNatClampNeg)) (by omega)
      rw [hm _ (by omega), hm _ (by omega), andn_nI b1]
      refine ⟨vp_nI (by omega) (by decide), vp_nI (by omega) (by decide), Runs.fn (ct_X7_bitCount (by have := dif_lt (r := cr1 a.1 x.toNatClampNeg f.toNatClampNeg (71 + a.1 (11 + f.toNatClampNeg))) b1; omega)) ?_⟩
      refine ⟨vp_nI (by omega) (by decide), vp_nI (by omega) (by decide), vp_nI (by omega) (by decide), ?_⟩
      rw [hm _ (by omega), hm _ (by omega), fa_or', q1]
      refine ⟨?_, q2.row (MA.set hm) (fun k hk => up_ne hk), q3.trans (frM_row (fun k hk => up_ne hk))⟩
      show (if (a.1 (71 + x.toNatClampNeg)).testBit (a.1 (11 + f.toNatClampNeg)) then (0 : Int32) else 1) + _ = nI _
      rw [← nI_if, nI_add]
    · rw [bi_eq0] at c4; rw [if_neg (by simp [c4])]; exact OpM.same h
  · rw [bi_eq0] at c2; rw [if_neg (by simp [c2])]; exact OpM.same h
theorem wa_create {a : Ab} {x f : Int32} (hw : WA a) : WA (sp_create a x f).2 := by
  have hn := hw.1.n
  unfold sp_create
  split
  · rename_i c
    simp only [Bool.and_eq_true] at c
    have h1 := (inR_ex (isW_r c.1)).1
    obtain ⟨f1, f2⟩ := isK_kd hw.1 (k := 3) (by decide) c.2
    have f3 := ((hw.1.o f1).2.2.2.2.2 f2).1
    split
    · exact hw.psh (hw.1.cr2 (by omega) (by omega) (by omega))
    · exact hw
  · exact hw
