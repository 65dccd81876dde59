/-! Saving and undoing in the class; a run's beginning in the reference. -/
theorem slot_at : ∀ n, n < 5 → ([54, 64, 74, 84, 94] : List Nat).getD n 0 = 54 + 10 * n := by decide
theorem isSt_slot {n : Nat} (h : n < 5) : isSt (54 + 10 * n) := by unfold isSt; omega
theorem CI.s {a : Ab} {g : Mem} (h : CI a g) (hw : WA a) : CW 34 a.1 g := ⟨h.1, hw.1⟩
theorem sg_X2_save_0 {Γ : Gam} {P : Int32 → Mem → Prop}  {g : Mem} (h : (vp_in (g 4 1) 5 ∧ (cAt (([54, 64, 74, 84, 94] : List Nat).getD (g 4 1).toNatClampNeg 0) = some 4 ∧ (Runs Γ 1 yX4_copyFrom iX4_copyFrom [.inr (([54, 64, 74, 84, 94] : List Nat).getD (g 4 1).toNatClampNeg 0), .inr 34] g (fun r1 g1 => P 0 (up (up g1 4 1 (((g1 4 1) + 1) - ((g1 4 1) + 1) / 5 * 5)) 4 2 (if 5 < ((g1 4 2) + 1) then 5 else ((g1 4 2) + 1)))))))) : AW Γ 2 iX2_save P 0 [some (.inr 4), some (.inr 34)] [] g :=
  (aw_aload_n dX2_save_0 rfl (aw_getr 5 fkX2_11 fa_4_0 dX2_save_1 (aw_aload_n dX2_save_4 rfl (aw_geti fkX2_17 fa_4_1 dX2_save_5 (aw_aald ra_5 dX2_save_8 h.1 (aw_aload_n dX2_save_9 rfl (aw_callVv lkX2_25 ckX4_copyFrom h.2.1 rfl (d := 1) (by decide) [.inr 34] rfl rfl (Nat.le_of_ble_eq_true rfl) dX2_save_10 rfl (Runs.mono h.2.2 (fun r1 g1 h1_ => (aw_aload_n dX2_save_13 rfl (aw_aload_n dX2_save_14 rfl (aw_geti fkX2_17 fa_4_1 dX2_save_15 (aw_iconst 1 dX2_save_18 (by decide) (aw_iadd dX2_save_19 (aw_iconst 5 dX2_save_20 (by decide) (aw_irem dX2_save_21 (by decide) (aw_putf fpX2_17 fa_4_1 (vp_nar_int _) rfl dX2_save_22 (aw_aload_n dX2_save_25 rfl (aw_aload_n dX2_save_26 rfl (aw_geti fkX2_21 fa_4_2 dX2_save_27 (aw_iconst 1 dX2_save_30 (by decide) (aw_iadd dX2_save_31 (aw_iconst 5 dX2_save_32 (by decide) (aw_mmin wmnX2_29 (by decide) (Nat.le_of_ble_eq_true rfl) dX2_save_33 (aw_putf fpX2_21 fa_4_2 (vp_nar_int _) rfl dX2_save_36 (aw_vret rfl dX2_save_39 h1_))))))))))))))))))))))))))
theorem ct_X2_save {Γ : Gam} {s : St} {hs : List St} {g : Mem} (hc : CW 34 s g) (hh : HC hs g) (hw : ∀ t, t ∈ hs → WF t) : Runs Γ 2 yX2_save iX2_save [.inr 4, .inr 34] g (fun _ g' => HC (push hs s) g' ∧ ∀ k, k ≠ 4 → k < 54 → g' k = g k) := by
  obtain ⟨hl, h2, nx, hnx, h1, hv⟩ := hh
  have hst := isSt_slot hnx
  refine Runs.intro (by decide) rfl (Nat.le_of_ble_eq_true rfl) (sg_X2_save_0 ?_)
  rw [h1, ix_nI (by omega), slot_at nx hnx]
  refine ⟨vp_nI hnx (by decide), cs_ hst, (ct_X4_copyFrom hst isSt_34 (by omega)).mono (fun r g1 q => ?_)⟩
  obtain ⟨q1, q2⟩ := q
  have e4 : g1 4 = g 4 := q1 4 (by omega)
  rw [e4, h1, h2, nI_1, nI_1]
  have er : nI (nx + 1) - nI (nx + 1) / 5 * 5 = nI ((nx + 1) % 5) := pk_rem (a := nx + 1) (d := 5) (by omega) (by decide) (by decide)
  have em : (if (5 : Int32) < nI (hs.length + 1) then 5 else nI (hs.length + 1)) = nI (push hs s).length := by
    rw [push_len hl]
    by_cases h5 : hs.length = 5
    · rw [if_pos h5, h5]; rfl
    · rw [if_neg h5, if_neg (by rw [show (5 : Int32) = nI 5 from rfl, nI_ltI (by decide) (by omega)]; omega)]
  rw [er, em]
  have hpl := push_len (s := s) hl
  refine ⟨⟨?_, up_at _ _ _ _, (nx + 1) % 5, by omega, ?_, fun i t hi => ?_⟩, fun k k1 k2 => ?_⟩
  · rw [hpl]; split <;> omega
  · rw [up_nx (by decide), up_at]
  · have fr : ∀ k, 54 ≤ k → (up (up g1 4 1 (nI ((nx + 1) % 5))) 4 2 (nI (push hs s).length)) k = g1 k := fun k hk => by rw [up_ne (by omega), up_ne (by omega)]
    have old : ∀ j t, hs[j]? = some t → (nx + 5 - hs.length + j) % 5 ≠ nx → CS (54 + 10 * ((nx + 5 - hs.length + j) % 5)) t (up (up g1 4 1 (nI ((nx + 1) % 5))) 4 2 (nI (push hs s).length)) := by
      intro j t hj hne
      refine (hv j t hj).ext (fun k k1 k2 => ?_)
      rw [fr k (by omega), q1 k (by omega)]
    have new : CS (54 + 10 * nx) s (up (up g1 4 1 (nI ((nx + 1) % 5))) 4 2 (nI (push hs s).length)) := (q2 s hc.2 hc.1).ext (fun k k1 k2 => fr k (by omega))
    generalize up (up g1 4 1 (nI ((nx + 1) % 5))) 4 2 (nI (push hs s).length) = G at old new ⊢
    rw [hpl]
    rcases push_at hl hi with ⟨e, ⟨i1, i2⟩ | ⟨i1, i2⟩⟩ | ⟨e, ⟨i1, i2⟩ | ⟨i1, i2⟩⟩
    · have := old (i + 1) t i2 (by omega)
      rw [if_pos e]
      rw [show (nx + 5 - hs.length + (i + 1)) % 5 = ((nx + 1) % 5 + 5 - 5 + i) % 5 by omega] at this
      exact this
    · subst i1; subst i2
      rw [if_pos e, show ((nx + 1) % 5 + 5 - 5 + 4) % 5 = nx by omega]
      exact new
    · have := old i t i2 (by omega)
      rw [if_neg (by omega)]
      rw [show (nx + 5 - hs.length + i) % 5 = ((nx + 1) % 5 + 5 - (hs.length + 1) + i) % 5 by omega] at this
      exact this
    · subst i1; subst i2
      rw [if_neg (by omega), show ((nx + 1) % 5 + 5 - (hs.length + 1) + hs.length) % 5 = nx by omega]
      exact new
  · rw [up_ne k1, up_ne k1, q1 k (by omega)]
theorem sg_X6_saveState_0 {Γ : Gam} {P : Int32 → Mem → Prop}  {g : Mem} (h : (Runs Γ 2 yX2_save iX2_save [.inr 4, .inr 34] g (fun r1 g1 => P 0 (up g1 0 8 0)))) : AW Γ 3 iX6_saveState P 0 [some (.inr 0)] [] g :=
  (aw_aload_n dX6_saveState_0 rfl (aw_getr 4 fkX6_29 fa_0_3 dX6_saveState_1 (aw_aload_n dX6_saveState_4 rfl (aw_getr 34 fkX6_19 fa_0_1 dX6_saveState_5 (aw_callVv lkX6_214 ckX2_save ca_4 rfl (d := 2) (by decide) [.inr 34] rfl rfl (Nat.le_of_ble_eq_true rfl) dX6_saveState_8 rfl (Runs.mono h (fun r1 g1 h1_ => (aw_aload_n dX6_saveState_11 rfl (aw_iconst 0 dX6_saveState_12 (by decide) (aw_putf fpX6_57 fa_0_8 (by decide) (by decide) dX6_saveState_13 (aw_vret rfl dX6_saveState_16 h1_)))))))))))
theorem ct_X6_saveState {Γ : Gam} {a : Ab} {g : Mem} (h : CI a g) (hw : WA a) : Runs Γ 3 yX6_saveState iX6_saveState [.inr 0] g (fun _ g' => HC (push a.2.1 a.1) g' ∧ g' 0 8 = 0 ∧ ∀ k, k ≠ 0 → k ≠ 4 → k < 54 → g' k = g k) := by
  refine Runs.intro (by decide) rfl (Nat.le_of_ble_eq_true rfl) (sg_X6_saveState_0 ((ct_X2_save (h.s hw) h.2.1 hw.2.1).mono (fun r g1 q => ?_)))
  refine ⟨q.1.ext (up_ne (by decide)) (fun k hk => up_ne (by omega)), up_at _ _ _ _, fun k k1 k2 k3 => ?_⟩
  rw [up_ne k1, q.2 k k2 k3]
/-- what the class's state is behind a save and a change of s -/
theorem CI.saved {a : Ab} {s' : St} {g g' : Mem} (h : CI a g) (hs : CS 34 s' g') (hh : HC (push a.2.1 a.1) g') (h0 : g' 0 8 = 0) (ht : ∀ k, 1 ≤ k → k ≤ 2 → g' k = g k) : CI (s', push a.2.1 a.1, a.2.2.1, a.2.2.2) g' := by
  refine ⟨hs, hh, ?_, Or.inl h0⟩
  have h3 := h.2.2.1
  unfold TC at h3 ⊢
  rw [ht 1 (by decide) (by decide), ht 2 (by decide) (by decide)]
  exact h3
theorem frC_of {g g' : Mem} (h : ∀ k, k ≠ 0 → k ≠ 4 → k < 34 → g' k = g k) : frC g g' := fun k k1 k2 => h k (by omega) (by omega) (by omega)
theorem sg_X2_restoreInto_0 {Γ : Gam} {P : Int32 → Mem → Prop}  {g : Mem} (h : ((0 < (g 4 2) → (vp_in ((((g 4 1) + 5) - 1) - (((g 4 1) + 5) - 1) / 5 * 5) 5 ∧ (Runs Γ 1 yX4_copyFrom iX4_copyFrom [.inr 34, .inr (([54, 64, 74, 84, 94] : List Nat).getD ((((g 4 1) + 5) - 1) - (((g 4 1) + 5) - 1) / 5 * 5).toNatClampNeg 0)] (up (up g 4 1 ((((g 4 1) + 5) - 1) - (((g 4 1) + 5) - 1) / 5 * 5)) 4 2 ((g 4 2) - 1)) (fun r1 g1 => P 0 g1)))) ∧ (¬ (0 < (g 4 2)) → P 0 g))) : AW Γ 2 iX2_restoreInto P 0 [some (.inr 4), some (.inr 34)] [] g :=
  (aw_aload_n dX2_restoreInto_0 rfl (aw_geti fkX2_21 fa_4_2 dX2_restoreInto_1 (aw_if_gt 8 dX2_restoreInto_4 (by decide) (fun c1 => (aw_aload_n dX2_restoreInto_8 rfl (aw_aload_n dX2_restoreInto_9 rfl (aw_geti fkX2_17 fa_4_1 dX2_restoreInto_10 (aw_iconst 5 dX2_restoreInto_13 (by decide) (aw_iadd dX2_restoreInto_14 (aw_iconst 1 dX2_restoreInto_15 (by decide) (aw_isub dX2_restoreInto_16 (aw_iconst 5 dX2_restoreInto_17 (by decide) (aw_irem dX2_restoreInto_18 (by decide) (aw_putf fpX2_17 fa_4_1 (vp_nar_int _) rfl dX2_restoreInto_19 (aw_aload_n dX2_restoreInto_22 rfl (aw_dup dX2_restoreInto_23 (aw_geti fkX2_21 fa_4_2 dX2_restoreInto_24 (aw_iconst 1 dX2_restoreInto_27 (by decide) (aw_isub dX2_restoreInto_28 (aw_putf fpX2_21 fa_4_2 (vp_nar_int _) rfl dX2_restoreInto_29 (aw_aload_n dX2_restoreInto_32 rfl (aw_aload_n dX2_restoreInto_33 rfl (aw_getr 5 fkX2_11 fa_4_0 dX2_restoreInto_34 (aw_aload_n dX2_restoreInto_37 rfl (aw_geti fkX2_17 fa_4_1 dX2_restoreInto_38 (aw_aald ra_5 dX2_restoreInto_41 (h.1 c1).1 (aw_callVv lkX2_25 ckX4_copyFrom (cs_ isSt_34) rfl (d := 1) (by decide) [.inr (([54, 64, 74, 84, 94] : List Nat).getD ((((g 4 1) + 5) - 1) - (((g 4 1) + 5) - 1) / 5 * 5).toNatClampNeg 0)] rfl rfl (Nat.le_of_ble_eq_true rfl) dX2_restoreInto_42 rfl (Runs.mono (h.1 c1).2 (fun r1 g1 h1_ => (aw_vret rfl dX2_restoreInto_45 h1_))))))))))))))))))))))))))) (fun c1 => (aw_vret rfl dX2_restoreInto_7 (h.2 c1))))))
theorem ct_X2_restoreInto {Γ : Gam} {hs : List St} {t0 : St} {g : Mem} (hh : HC (hs ++ [t0]) g) (hw : WF t0) : Runs Γ 2 yX2_restoreInto iX2_restoreInto [.inr 4, .inr 34] g (fun _ g' => HC hs g' ∧ CS 34 t0 g' ∧ ∀ k, k ≠ 4 → k < 34 → g' k = g k) := by
  obtain ⟨hl, h2, nx, hnx, h1, hv⟩ := hh
  rw [List.length_append, List.length_singleton] at hl h2 hv
  have hlt : (nx + 4) % 5 < 5 := Nat.mod_lt _ (by decide)
  have hst := isSt_slot hlt
  have er : nI nx + 5 - 1 - (nI nx + 5 - 1) / 5 * 5 = nI ((nx + 4) % 5) := by
    have e1 : nI nx + 5 - 1 = nI (nx + 4) := by
      rw [show (5 : Int32) = nI 5 from rfl, nI_add]
      exact nI_pred (nx + 4)
    rw [e1]
    exact pk_rem (a := nx + 4) (d := 5) (by omega) (by decide) (by decide)
  refine Runs.intro (by decide) rfl (Nat.le_of_ble_eq_true rfl) (sg_X2_restoreInto_0 ?_)
  rw [h2, h1, er, ix_nI (by omega), slot_at _ hlt, nI_pred]
  refine ⟨fun _ => ⟨vp_nI hlt (by decide), (ct_X4_copyFrom isSt_34 hst (by omega)).mono (fun r g1 q => ?_)⟩, fun c => absurd (nI_lt (a := 0) (by omega) (by omega)) c⟩
  obtain ⟨q1, q2⟩ := q
  have hlast := hv hs.length t0 (by simp)
  rw [show (nx + 5 - (hs.length + 1) + hs.length) % 5 = (nx + 4) % 5 by omega] at hlast
  refine ⟨⟨by omega, ?_, (nx + 4) % 5, hlt, ?_, fun i t hi => ?_⟩, q2 t0 hw (hlast.ext (fun k k1 k2 => by rw [up_ne (by omega), up_ne (by omega)])), fun k k1 k2 => ?_⟩
  · rw [q1 4 (by omega), up_at]
  · rw [q1 4 (by omega), up_nx (by decide), up_at]
  · have hil : i < hs.length := (List.getElem?_eq_some_iff.mp hi).1
    have h5 := hv i t (by rw [List.getElem?_append_left hil]; exact hi)
    rw [show (nx + 5 - (hs.length + 1) + i) % 5 = ((nx + 4) % 5 + 5 - hs.length + i) % 5 by omega] at h5
    refine h5.ext (fun k k1 k2 => ?_)
    rw [q1 k (by omega), up_ne (by omega), up_ne (by omega)]
  · rw [q1 k (by omega), up_ne k1, up_ne k1]
/-! the reference's run -/
theorem sg_X7_beginRun_0 {Γ : Gam} {P : Int32 → Mem → Prop}  {g : Mem} (h : AW Γ 1 iX7_beginRun P 2 [some (.inr 26), some (.inl 0)] [] g) : AW Γ 1 iX7_beginRun P 0 [some (.inr 26)] [] g :=
  (aw_iconst 0 dX7_beginRun_0 (by decide) (aw_istore_n [some (.inr 26), some (.inl 0)] dX7_beginRun_1 (by decide) rfl (aw_mask [true, true] rfl h)))
theorem sg_X7_beginRun_2 {Γ : Gam} {P : Int32 → Mem → Prop}  (a1 : Int32) {g : Mem} (h : ((10 ≤ a1 → AW Γ 1 iX7_beginRun P 26 [some (.inr 26), some (.inl 0)] [] g) ∧ (¬ (10 ≤ a1) → (vp_in (71 + a1) 81 ∧ AW Γ 1 iX7_beginRun P 2 [some (.inr 26), some (.inl (a1 + 1))] [] (up g 27 (71 + a1).toNatClampNeg 0))))) : AW Γ 1 iX7_beginRun P 2 [some (.inr 26), some (.inl a1)] [] g :=
  (aw_iload_n dX7_beginRun_2 rfl (aw_bipush 10 dX7_beginRun_3 (by decide) (aw_icmp_ge 24 dX7_beginRun_5 (by decide) (fun c1 => (aw_iconst 0 dX7_beginRun_24 (by decide) (aw_istore_n [some (.inr 26), some (.inl 0)] dX7_beginRun_25 (by decide) rfl (aw_mask [true, true] rfl (h.1 c1))))) (fun c1 => (aw_aload_n dX7_beginRun_8 rfl (aw_getr 27 fkX7_7 fa_26_1 dX7_beginRun_9 (aw_bipush 71 dX7_beginRun_12 (by decide) (aw_iload_n dX7_beginRun_14 rfl (aw_iadd dX7_beginRun_15 (aw_iconst 0 dX7_beginRun_16 (by decide) (aw_iast aa_27 dX7_beginRun_17 (h.2 c1).1 (aw_iinc (a1 + 1) [some (.inr 26), some (.inl (a1 + 1))] dX7_beginRun_18 rfl (by rfl) (by decide) rfl (aw_goto 2 dX7_beginRun_21 (by decide) (aw_mask [true, true] rfl (h.2 c1).2))))))))))))))
theorem sg_X7_beginRun_26 {Γ : Gam} {P : Int32 → Mem → Prop}  (a1 : Int32) {g : Mem} (h : (((g 27 41) ≤ a1 → P 0 g) ∧ (¬ ((g 27 41) ≤ a1) → (vp_in (42 + (2 * a1)) 81 ∧ (vp_in (71 + (g 27 (42 + (2 * a1)).toNatClampNeg)) 81 ∧ (vp_in ((42 + (2 * a1)) + 1) 81 ∧ (vp_in (71 + (g 27 (42 + (2 * a1)).toNatClampNeg)) 81 ∧ AW Γ 1 iX7_beginRun P 26 [some (.inr 26), some (.inl (a1 + 1))] [] (up g 27 (71 + (g 27 (42 + (2 * a1)).toNatClampNeg)).toNatClampNeg ((g 27 (71 + (g 27 (42 + (2 * a1)).toNatClampNeg)).toNatClampNeg) ||| (1 <<< ((g 27 ((42 + (2 * a1)) + 1).toNatClampNeg) &&& 31))))))))))) : AW Γ 1 iX7_beginRun P 26 [some (.inr 26), some (.inl a1)] [] g :=
  (aw_iload_n dX7_beginRun_26 rfl (aw_aload_n dX7_beginRun_27 rfl (aw_getr 27 fkX7_7 fa_26_1 dX7_beginRun_28 (aw_bipush 41 dX7_beginRun_31 (by decide) (aw_iald aa_27 dX7_beginRun_33 (vp_lit 41 (by decide) (by decide)) (aw_icmp_ge 80 dX7_beginRun_34 (by decide) (fun c1 => (aw_vret rfl dX7_beginRun_80 (h.1 c1))) (fun c1 => (aw_aload_n dX7_beginRun_37 rfl (aw_getr 27 fkX7_7 fa_26_1 dX7_beginRun_38 (aw_bipush 71 dX7_beginRun_41 (by decide) (aw_aload_n dX7_beginRun_43 rfl (aw_getr 27 fkX7_7 fa_26_1 dX7_beginRun_44 (aw_bipush 42 dX7_beginRun_47 (by decide) (aw_iconst 2 dX7_beginRun_49 (by decide) (aw_iload_n dX7_beginRun_50 rfl (aw_imul dX7_beginRun_51 (aw_iadd dX7_beginRun_52 (aw_iald aa_27 dX7_beginRun_53 (h.2 c1).1 (aw_iadd dX7_beginRun_54 (aw_dup2 dX7_beginRun_55 (aw_iald aa_27 dX7_beginRun_56 (h.2 c1).2.1 (aw_iconst 1 dX7_beginRun_57 (by decide) (aw_aload_n dX7_beginRun_58 rfl (aw_getr 27 fkX7_7 fa_26_1 dX7_beginRun_59 (aw_bipush 42 dX7_beginRun_62 (by decide) (aw_iconst 2 dX7_beginRun_64 (by decide) (aw_iload_n dX7_beginRun_65 rfl (aw_imul dX7_beginRun_66 (aw_iadd dX7_beginRun_67 (aw_iconst 1 dX7_beginRun_68 (by decide) (aw_iadd dX7_beginRun_69 (aw_iald aa_27 dX7_beginRun_70 (h.2 c1).2.2.1 (aw_ishl dX7_beginRun_71 (aw_ior dX7_beginRun_72 (aw_iast aa_27 dX7_beginRun_73 (h.2 c1).2.2.2.1 (aw_iinc (a1 + 1) [some (.inr 26), some (.inl (a1 + 1))] dX7_beginRun_74 rfl (by rfl) (by decide) rfl (aw_goto 26 dX7_beginRun_77 (by decide) (aw_mask [true, true] rfl (h.2 c1).2.2.2.2))))))))))))))))))))))))))))))))))))))
theorem lp_X7_beg26 {Γ : Gam} {P : Int32 → Mem → Prop} {s : St} (hw : WF s) {g : Mem} (hm : ∀ j, j < 71 → g 27 j = nI (s j)) (hP : ∀ g', (∀ k, k ≠ 27 → g' k = g k) → (∀ j, j < 71 → g' 27 j = nI (s j)) → (∀ i, i < 10 → g' 27 (71 + i) = nI (rowsK s 0 (s 41) i)) → P 0 g') : ∀ n k g', k + n = s 41 → (∀ k, k ≠ 27 → g' k = g k) → (∀ j, j < 71 → g' 27 j = nI (s j)) → (∀ i, i < 10 → g' 27 (71 + i) = nI (rowsK s 0 k i)) → AW Γ 1 iX7_beginRun P 26 [some (.inr 26), some (.inl (nI k))] [] g' := by
  intro n
  have hr := hw.nr
  induction n with
  | zero =>
    intro k g' hk e1 e2 e3
    refine sg_X7_beginRun_26 _ ?_
    rw [e2 41 (by decide)]
    refine ⟨fun _ => hP g' e1 e2 (by rw [show s 41 = k by omega]; exact e3), fun c => absurd (nI_le (by omega) (by omega)) c⟩
  | succ n ih =>
    intro k g' hk e1 e2 e3
    obtain ⟨r1, r2, r3⟩ := hw.rf (k := k) (by omega)
    have hn := hw.n
    refine sg_X7_beginRun_26 _ ?_
    rw [e2 41 (by decide), n42, nI_1, nI_1, ix_nI (n := 42 + 2 * k) (by omega), ix_nI (n := 42 + 2 * k + 1) (by omega), e2 (42 + 2 * k) (by omega), e2 (42 + 2 * k + 1) (by omega), n71, ix_nI (by omega), bit_nI (by omega), e3 _ (by omega), fa_or']
    refine ⟨fun c => absurd c (nI_ge (by omega) (by omega)), fun _ => ⟨vp_nI (by omega) (by decide), vp_nI (by omega) (by decide), vp_nI (by omega) (by decide), vp_nI (by omega) (by decide), ih (k + 1) _ (by omega) (fun j hj => by rw [up_ne hj, e1 j hj]) (fun j hj => by rw [up_nx (by omega)]; exact e2 j hj) (fun i hi => ?_)⟩⟩
    rw [rowsK, if_neg (by rw [Nat.zero_testBit]; decide)]
    by_cases hi2 : i = s (42 + 2 * k)
    · subst hi2
      rw [up_at, if_pos rfl]
    · rw [up_nx (by omega), if_neg hi2]; exact e3 i hi
theorem lp_X7_beg2 {Γ : Gam} {P : Int32 → Mem → Prop} {g : Mem} (hP : ∀ g', (∀ k, k ≠ 27 → g' k = g k) → (∀ j, j < 71 → g' 27 j = g 27 j) → (∀ i, i < 10 → g' 27 (71 + i) = 0) → AW Γ 1 iX7_beginRun P 26 [some (.inr 26), some (.inl 0)] [] g') : ∀ n k g', k + n = 10 → (∀ k, k ≠ 27 → g' k = g k) → (∀ j, j < 71 → g' 27 j = g 27 j) → (∀ i, i < k → g' 27 (71 + i) = 0) → AW Γ 1 iX7_beginRun P 2 [some (.inr 26), some (.inl (nI k))] [] g' := by
  intro n
  induction n with
  | zero =>
    intro k g' hk e1 e2 e3
    have e : k = 10 := by omega
    subst e
    exact sg_X7_beginRun_2 _ ⟨fun _ => hP g' e1 e2 e3, fun c => absurd (nI_le (Nat.le_refl 10) (by decide)) c⟩
  | succ n ih =>
    intro k g' hk e1 e2 e3
    refine sg_X7_beginRun_2 _ ⟨fun c => absurd c (nI_ge (show k < 10 by omega) (by decide)), fun _ => ?_⟩
    rw [n71, nI_1, ix_nI (by omega)]
    refine ⟨vp_nI (by omega) (by decide), ih (k + 1) _ (by omega) (fun j hj => by rw [up_ne hj, e1 j hj]) (fun j hj => by rw [up_nx (by omega)]; exact e2 j hj) (fun i hi => ?_)⟩
    rcases Nat.lt_or_ge i k with q | q
    · rw [up_nx (by omega)]; exact e3 i q
    · rw [show i = k by omega, up_at]
theorem ct_X7_beginRun {Γ : Gam} {s : St} (hw : WF s) {g : Mem} (h : ∀ j, j < 71 → g 27 j = nI (s j)) : Runs Γ 1 yX7_beginRun iX7_beginRun [.inr 26] g (fun _ g' => (∀ k, k ≠ 27 → g' k = g k) ∧ MA 27 (beg s) g') := by
  refine Runs.intro (by decide) rfl (Nat.le_of_ble_eq_true rfl) (sg_X7_beginRun_0 (lp_X7_beg2 (g := g) (fun g1 a1 a2 a3 => ?_) 10 0 g rfl (fun _ _ => rfl) (fun _ _ => rfl) (fun i hi => by omega)))
  refine lp_X7_beg26 hw (g := g1) (fun j hj => by rw [a2 j hj]; exact h j hj) (fun g' b1 b2 b3 => ⟨fun k hk => by rw [b1 k hk, a1 k hk], fun j hj => ?_⟩) (s 41) 0 g1 (by omega) (fun _ _ => rfl) (fun j hj => by rw [a2 j hj]; exact h j hj) (fun i hi => by rw [a3 i hi]; rfl)
  rcases Nat.lt_or_ge j 71 with q | q
  · rw [beg_lo q]; exact b2 j q
  · obtain ⟨i, rfl⟩ : ∃ i, j = 71 + i := ⟨j - 71, by omega⟩
    rw [beg_run (by omega)]; exact b3 i (by omega)
theorem MI.thr {a : Ab} {g : Mem} (h : MI a g) : MI a (up g 26 0 0) := by
  unfold MI MA HM TM at h ⊢
  rw [up_ne (show 27 ≠ 26 by decide), up_ne (show 29 ≠ 26 by decide), up_ne (show 30 ≠ 26 by decide), up_nx (show 4 ≠ 0 by decide), up_nx (show 6 ≠ 0 by decide)]
  exact h
theorem frM_thr (g : Mem) : frM g (up g 26 0 0) := fun k hk => up_ne (by omega)
theorem MI.s {a : Ab} {g : Mem} (h : MI a g) (hw : WA a) : MW 27 a.1 g := ⟨h.1, hw.1⟩
/-- behind a save of the reference -/
theorem ct_X7_save' {Γ : Gam} {a : Ab} {g : Mem} (h : MI a g) : Runs Γ 1 yX7_save iX7_save [.inr 26] g (fun _ g' => MI (a.1, push a.2.1 a.1, a.2.2.1, a.2.2.2) g' ∧ frM g g') := by
  refine (ct_X7_save h.1 h.2.1).mono (fun r g' q => ?_)
  obtain ⟨q1, q2, q3⟩ := q
  refine ⟨⟨?_, q1, ?_⟩, fun k hk => q2 k (by omega) (by omega)⟩
  · have h1 := h.1
    unfold MA at h1 ⊢
    rw [q2 27 (by decide) (by decide)]
    exact h1
  · have h1 := h.2.2
    unfold TM at h1 ⊢
    rw [q2 30 (by decide) (by decide), q3 6 (by decide)]
    exact h1
theorem MI.row {a : Ab} {s' : St} {g g' : Mem} (h : MI a g) (hm : MA 27 s' g') (he : ∀ k, k ≠ 27 → g' k = g k) : MI (s', a.2.1, a.2.2.1, a.2.2.2) g' := by
  unfold MI HM TM at h ⊢
  rw [he 26 (by decide), he 29 (by decide), he 30 (by decide)]
  exact ⟨hm, h.2⟩
theorem frM_row {g g' : Mem} (he : ∀ k, k ≠ 27 → g' k = g k) : frM g g' := fun k hk => he k (by omega)
theorem frM.trans {g1 g2 g3 : Mem} (h : frM g1 g2) (h' : frM g2 g3) : frM g1 g3 := fun k hk => by rw [h' k hk, h k hk]
