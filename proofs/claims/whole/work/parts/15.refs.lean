/-! References and requirements. -/
theorem CS.refs {s s' : St} {g g' : Mem} (hw : WF s) (h : CS 34 s g) (hs : ∀ j, (j < 41 ∨ 62 ≤ j) → s' j = s j) (hg : ∀ k, k ≠ 34 → k ≠ 39 → k ≠ 40 → g' k = g k) (h0 : ∀ j, j ≠ 5 → g' 34 j = g 34 j) (h5 : g' 34 5 = nI (s' 41)) (hk : ∀ k, k < s' 41 → g' 39 k = nI (s' (42 + 2 * k)) ∧ g' 40 k = nI (s' (42 + 2 * k + 1))) : CS 34 s' g' := by
  have hn := hw.n
  have hq := hw.nq
  obtain ⟨c1, c2, c3, c4, c5, c6, c7, c8, c9, c10⟩ := h
  unfold CS
  rw [h0 0 (by decide), h0 8 (by decide), hg (34 + 1) (by decide) (by decide) (by decide), hg (34 + 2) (by decide) (by decide) (by decide), hg (34 + 3) (by decide) (by decide) (by decide), hg (34 + 4) (by decide) (by decide) (by decide), hg (34 + 7) (by decide) (by decide) (by decide), hg (34 + 8) (by decide) (by decide) (by decide), hg (34 + 9) (by decide) (by decide) (by decide), hs 0 (by omega), hs 62 (by omega)]
  refine ⟨c1, fun j hj => ?_, fun j hj hk2 => ?_, fun j hj => ?_, fun j hj => ?_, h5, hk, c8, fun j hj => ?_, fun j hj => ?_⟩
  · rw [hs _ (by omega)]; exact c2 j hj
  · rw [hs _ (by omega)] at hk2 ⊢; exact c3 j hj hk2
  · rw [hs _ (by omega), hs _ (by omega), hs _ (by omega)]; exact c4 j hj
  · rw [hs _ (by omega)]; exact c5 j hj
  · rw [hs _ (by omega), hs _ (by omega)]; exact c9 j hj
  · rw [hs _ (by omega)]; exact c10 j hj
theorem WF.refs {s s' : St} (hw : WF s) (hs : ∀ j, (j < 41 ∨ 62 ≤ j) → s' j = s j) (h1 : s' 41 ≤ 10) (hk : ∀ k, k < s' 41 → s' (42 + 2 * k) < s 0 ∧ (s (1 + s' (42 + 2 * k)) = 0 ∨ s (1 + s' (42 + 2 * k)) = 3) ∧ s' (42 + 2 * k + 1) < s 0) : WF s' := by
  have hn := hw.n
  have hq := hw.nq
  refine ⟨by rw [hs 0 (by omega)]; exact hn, fun i hi => ?_, h1, fun k hk2 => ?_, by rw [hs 62 (by omega)]; exact hq, fun k hk => ?_, fun j hj => by rw [hs _ (by omega)]; exact hw.rn hj⟩
  · rw [hs 0 (by omega)] at hi
    have ho := hw.o hi
    unfold OkO at ho ⊢
    rw [hs 0 (by omega), hs (1 + i) (by omega), hs (31 + i) (by omega), hs (11 + i) (by omega), hs (21 + i) (by omega)]
    refine ⟨ho.1, ho.2.1, ho.2.2.1, ho.2.2.2.1, ho.2.2.2.2.1, fun e => ⟨(ho.2.2.2.2.2 e).1, ?_⟩⟩
    have := (ho.2.2.2.2.2 e).1
    rw [hs _ (by omega)]
    exact (ho.2.2.2.2.2 e).2
  · obtain ⟨k1, k2, k3⟩ := hk k hk2
    rw [hs 0 (by omega), hs (1 + s' (42 + 2 * k)) (by omega)]
    exact ⟨k1, k2, k3⟩
  · rw [hs 62 (by omega)] at hk
    rw [hs 0 (by omega), hs (63 + 2 * k) (by omega), hs (63 + 2 * k + 1) (by omega)]
    exact hw.rq hk
theorem CS.reqs {s s' : St} {g g' : Mem} (hw : WF s) (h : CS 34 s g) (hs : ∀ j, (j < 62 ∨ 71 ≤ j) → s' j = s j) (hg : ∀ k, k ≠ 34 → k ≠ 41 → k ≠ 42 → g' k = g k) (h0 : ∀ j, j ≠ 8 → g' 34 j = g 34 j) (h5 : g' 34 8 = nI (s' 62)) (hk : ∀ k, k < s' 62 → g' 41 k = nI (s' (63 + 2 * k)) ∧ g' 42 k = nI (s' (63 + 2 * k + 1))) : CS 34 s' g' := by
  have hn := hw.n
  have hr := hw.nr
  obtain ⟨c1, c2, c3, c4, c5, c6, c7, c8, c9, c10⟩ := h
  unfold CS
  rw [h0 0 (by decide), h0 5 (by decide), hg (34 + 1) (by decide) (by decide) (by decide), hg (34 + 2) (by decide) (by decide) (by decide), hg (34 + 3) (by decide) (by decide) (by decide), hg (34 + 4) (by decide) (by decide) (by decide), hg (34 + 5) (by decide) (by decide) (by decide), hg (34 + 6) (by decide) (by decide) (by decide), hg (34 + 9) (by decide) (by decide) (by decide), hs 0 (by omega), hs 41 (by omega)]
  refine ⟨c1, fun j hj => ?_, fun j hj hk2 => ?_, fun j hj => ?_, fun j hj => ?_, c6, fun j hj => ?_, h5, hk, fun j hj => ?_⟩
  · rw [hs _ (by omega)]; exact c2 j hj
  · rw [hs _ (by omega)] at hk2 ⊢; exact c3 j hj hk2
  · rw [hs _ (by omega), hs _ (by omega), hs _ (by omega)]; exact c4 j hj
  · rw [hs _ (by omega)]; exact c5 j hj
  · rw [hs _ (by omega), hs _ (by omega)]; exact c7 j hj
  · rw [hs _ (by omega)]; exact c10 j hj
theorem WF.reqs {s s' : St} (hw : WF s) (hs : ∀ j, (j < 62 ∨ 71 ≤ j) → s' j = s j) (h1 : s' 62 ≤ 4) (hk : ∀ k, k < s' 62 → s' (63 + 2 * k) < s 0 ∧ s' (63 + 2 * k + 1) < s 0) : WF s' := by
  have hn := hw.n
  have hr := hw.nr
  refine ⟨by rw [hs 0 (by omega)]; exact hn, fun i hi => ?_, by rw [hs 41 (by omega)]; exact hr, fun k hk2 => ?_, h1, fun k hk2 => ?_, fun j hj => by rw [hs _ (by omega)]; exact hw.rn hj⟩
  · rw [hs 0 (by omega)] at hi
    have ho := hw.o hi
    unfold OkO at ho ⊢
    rw [hs 0 (by omega), hs (1 + i) (by omega), hs (31 + i) (by omega), hs (11 + i) (by omega), hs (21 + i) (by omega)]
    refine ⟨ho.1, ho.2.1, ho.2.2.1, ho.2.2.2.1, ho.2.2.2.2.1, fun e => ⟨(ho.2.2.2.2.2 e).1, ?_⟩⟩
    have := (ho.2.2.2.2.2 e).1
    rw [hs _ (by omega)]
    exact (ho.2.2.2.2.2 e).2
  · rw [hs 41 (by omega)] at hk2
    have h2 := hw.rf hk2
    rw [hs 0 (by omega), hs (42 + 2 * k) (by omega), hs (42 + 2 * k + 1) (by omega), hs _ (by omega)]
    exact h2
  · rw [hs 0 (by omega)]; exact hk k hk2
theorem MA.setx {s : St} {g : Mem} {p v : Nat} {x : Int32} (h : MA 27 s g) (hx : x = nI v) : MA 27 (sset s p v) (up g 27 p x) := by rw [hx]; exact MA.set h
def addR (s : St) (h o : Nat) : St := sset (sset (sset s (42 + 2 * s 41) h) (42 + 2 * s 41 + 1) o) 41 (s 41 + 1)
theorem addR_out {s : St} {h o j : Nat} (hn : s 41 < 10) (hj : j < 41 ∨ 62 ≤ j) : addR s h o j = s j := by
  unfold addR; rw [sset_ne (by omega), sset_ne (by omega), sset_ne (by omega)]
theorem addR_n {s : St} {h o : Nat} : addR s h o 41 = s 41 + 1 := sset_at _ _ _
theorem addR_new {s : St} {h o : Nat} : addR s h o (42 + 2 * s 41) = h ∧ addR s h o (42 + 2 * s 41 + 1) = o := by
  unfold addR
  rw [sset_ne (by omega), sset_ne (by omega), sset_at, sset_ne (by omega), sset_at]
  exact ⟨rfl, rfl⟩
theorem addR_old {s : St} {h o k : Nat} (hk : k < s 41) : addR s h o (42 + 2 * k) = s (42 + 2 * k) ∧ addR s h o (42 + 2 * k + 1) = s (42 + 2 * k + 1) := by
  unfold addR
  rw [sset_ne (by omega), sset_ne (by omega), sset_ne (by omega), sset_ne (by omega), sset_ne (by omega), sset_ne (by omega)]
  exact ⟨rfl, rfl⟩
theorem WF.addR {s : St} (hw : WF s) (hr : s 41 < 10) {h o : Nat} (hh : h < s 0) (hk : s (1 + h) = 0 ∨ s (1 + h) = 3) (ho : o < s 0) : WF (addR s h o) := by
  refine hw.refs (fun j hj => addR_out hr hj) (by rw [addR_n]; omega) (fun k hk2 => ?_)
  rw [addR_n] at hk2
  rcases Nat.lt_or_ge k (s 41) with q | q
  · rw [(addR_old q).1, (addR_old q).2]; exact hw.rf q
  · have e : k = s 41 := by omega
    subst e
    rw [addR_new.1, addR_new.2]; exact ⟨hh, hk, ho⟩
theorem sg_X4_listReference_0 {Γ : Gam} {P : Int32 → Mem → Prop} (b : Nat) (hb : isSt b) (a1 a2 : Int32) {g : Mem} (h : (((g b 5) < 10 → (vp_in (g b 5) 10 ∧ (vp_in ((up g (b + 5) (g b 5).toNatClampNeg a1) b 5) 10 ∧ P 0 (up (up (up g (b + 5) (g b 5).toNatClampNeg a1) (b + 6) ((up g (b + 5) (g b 5).toNatClampNeg a1) b 5).toNatClampNeg a2) b 5 (((up (up g (b + 5) (g b 5).toNatClampNeg a1) (b + 6) ((up g (b + 5) (g b 5).toNatClampNeg a1) b 5).toNatClampNeg a2) b 5) + 1))))) ∧ (¬ ((g b 5) < 10) → P 0 g))) : AW Γ 1 iX4_listReference P 0 [some (.inr b), some (.inl a1), some (.inl a2)] [] g :=
  (aw_aload_n dX4_listReference_0 rfl (aw_geti fkX4_28 (fs_5 hb) dX4_listReference_1 (aw_bipush 10 dX4_listReference_4 (by decide) (aw_icmp_lt 10 dX4_listReference_6 (by decide) (fun c1 => (aw_aload_n dX4_listReference_10 rfl (aw_getr (b + 5) fkX4_31 (fs_6 hb) dX4_listReference_11 (aw_aload_n dX4_listReference_14 rfl (aw_geti fkX4_28 (fs_5 hb) dX4_listReference_15 (aw_iload_n dX4_listReference_18 rfl (aw_iast (as_5 hb) dX4_listReference_19 (h.1 c1).1 (aw_aload_n dX4_listReference_20 rfl (aw_getr (b + 6) fkX4_34 (fs_7 hb) dX4_listReference_21 (aw_aload_n dX4_listReference_24 rfl (aw_geti fkX4_28 (fs_5 hb) dX4_listReference_25 (aw_iload_n dX4_listReference_28 rfl (aw_iast (as_6 hb) dX4_listReference_29 (h.1 c1).2.1 (aw_aload_n dX4_listReference_30 rfl (aw_dup dX4_listReference_31 (aw_geti fkX4_28 (fs_5 hb) dX4_listReference_32 (aw_iconst 1 dX4_listReference_35 (by decide) (aw_iadd dX4_listReference_36 (aw_putf fpX4_28 (fs_5 hb) (vp_nar_int _) rfl dX4_listReference_37 (aw_vret rfl dX4_listReference_40 (h.1 c1).2.2)))))))))))))))))))) (fun c1 => (aw_vret rfl dX4_listReference_9 (h.2 c1)))))))
theorem ct_X4_listReference {Γ : Gam} {s : St} {g : Mem} {h o : Nat} (hc : CW 34 s g) (hr : s 41 < 10) : Runs Γ 1 yX4_listReference iX4_listReference [.inr 34, .inl (nI h), .inl (nI o)] g (fun _ g' => CS 34 (addR s h o) g' ∧ ∀ k, k ≠ 34 → k ≠ 39 → k ≠ 40 → g' k = g k) := by
  obtain ⟨c1, c2, c3, c4, c5, c6, c7, c8, c9, c10⟩ := hc.1
  refine Runs.intro (by decide) rfl (Nat.le_of_ble_eq_true rfl) (sg_X4_listReference_0 34 isSt_34 _ _ ?_)
  rw [up_ne (show 34 ≠ 34 + 6 by decide), up_ne (show 34 ≠ 34 + 5 by decide), c6, nI_1, ix_nI (by omega), show (10 : Int32) = nI 10 from rfl, nI_ltI (by omega) (by decide)]
  refine ⟨fun _ => ⟨vp_nI hr (by decide), vp_nI hr (by decide), ?_, fun k k1 k2 k3 => by rw [up_ne k1, up_ne k3, up_ne k2]⟩, fun c => absurd hr c⟩
  refine CS.refs hc.2 hc.1 (fun j hj => addR_out hr hj) (fun k k1 k2 k3 => by rw [up_ne k1, up_ne k3, up_ne k2]) (fun j hj => by rw [up_nx hj, up_ne (by decide), up_ne (by decide)]) (by rw [up_at, addR_n]) (fun k hk => ?_)
  rw [addR_n] at hk
  rw [up_ne (show 39 ≠ 34 by decide), up_ne (show 39 ≠ 34 + 6 by decide), up_ne (show 40 ≠ 34 by decide)]
  show up g 39 (s 41) (nI h) 39 k = _ ∧ up (up g 39 (s 41) (nI h)) 40 (s 41) (nI o) 40 k = _
  rcases Nat.lt_or_ge k (s 41) with q | q
  · rw [(addR_old q).1, (addR_old q).2, up_nx (by omega), up_nx (by omega), up_ne (by decide)]; exact c7 k q
  · have e : k = s 41 := by omega
    subst e
    rw [addR_new.1, addR_new.2, up_at, up_at]; exact ⟨rfl, rfl⟩
def sp_addReference (a : Ab) (x y : Int32) : Int32 × Ab := if isH a.1 x && inR (a.1 0) y then (if ff (refP a.1 x y) 0 (a.1 41) < a.1 41 then (-2, a) else if a.1 41 = 10 then (-3, a) else (nI (a.1 41 + 1), (beg (addR a.1 x.toNatClampNeg y.toNatClampNeg), push a.2.1 a.1, a.2.2.1, a.2.2.2))) else (-1, a)
theorem isH_ex {s : St} (hw : WF s) {x : Int32} (h : isH s x = true) : x.toNatClampNeg < s 0 ∧ x = nI x.toNatClampNeg ∧ (s (1 + x.toNatClampNeg) = 0 ∨ s (1 + x.toNatClampNeg) = 3) := by
  unfold isH at h
  rw [Bool.or_eq_true] at h
  rcases h with h | h
  · obtain ⟨h1, h2⟩ := isK_kd hw (k := 0) (by decide) h
    exact ⟨h1, (inR_ex (isK_in h).1).2, Or.inl h2⟩
  · obtain ⟨h1, h2⟩ := isK_kd hw (k := 3) (by decide) h
    exact ⟨h1, (inR_ex (isK_in h).1).2, Or.inr h2⟩
theorem sg_X6_addReference_0 {Γ : Gam} {P : Int32 → Mem → Prop}  (s : St) (a1 a2 : Int32) {g : Mem} (h : (CW 34 s g ∧ (((bi (isH s a1)) = 0 → P (-1) g) ∧ (¬ (bi (isH s a1)) = 0 → (CW 34 s g ∧ ((¬ (bi (inR (s 0) a2)) = 0 → (CW 34 s g ∧ (((bi (decide (ff (refP s a1 a2) 0 (s 41) < s 41))) = 0 → (((g 34 5) < 10 → (Runs Γ 3 yX6_saveState iX6_saveState [.inr 0] g (fun r1 g1 => (Runs Γ 1 yX4_listReference iX4_listReference [.inr 34, .inl a1, .inl a2] g1 (fun r2 g2 => (Runs Γ 3 yX4_startRun iX4_startRun [.inr 34] g2 (fun r3 g3 => P (g3 34 5) g3))))))) ∧ (¬ ((g 34 5) < 10) → P (-3) g))) ∧ (¬ (bi (decide (ff (refP s a1 a2) 0 (s 41) < s 41))) = 0 → P (-2) g)))) ∧ ((bi (inR (s 0) a2)) = 0 → P (-1) g))))))) : AW Γ 4 iX6_addReference P 0 [some (.inr 0), some (.inl a1), some (.inl a2)] [] g :=
  (aw_aload_n dX6_addReference_0 rfl (aw_getr 34 fkX6_19 fa_0_1 dX6_addReference_1 (aw_iload_n dX6_addReference_4 rfl (aw_callVi lkX6_102 ckX4_canHold (cs_ isSt_34) rfl (d := 2) (by decide) [.inl a1] rfl rfl (Nat.le_of_ble_eq_true rfl) dX6_addReference_5 rfl (Runs.fn ((ct_X4_canHold isSt_34) h.1) (aw_if_eq 22 dX6_addReference_8 (by decide) (fun c1 => (aw_iconst (-1) dX6_addReference_22 (by decide) (aw_iret rfl (vp_nar_int _) dX6_addReference_23 (h.2.1 c1)))) (fun c1 => (aw_aload_n dX6_addReference_11 rfl (aw_getr 34 fkX6_19 fa_0_1 dX6_addReference_12 (aw_iload_n dX6_addReference_15 rfl (aw_callVi lkX6_86 ckX4_has (cs_ isSt_34) rfl (d := 1) (by decide) [.inl a2] rfl rfl (Nat.le_of_ble_eq_true rfl) dX6_addReference_16 rfl (Runs.fn ((ct_X4_has isSt_34) (h.2.2 c1).1) (aw_if_ne 24 dX6_addReference_19 (by decide) (fun c2 => (aw_aload_n dX6_addReference_24 rfl (aw_getr 34 fkX6_19 fa_0_1 dX6_addReference_25 (aw_iload_n dX6_addReference_28 rfl (aw_iload_n dX6_addReference_29 rfl (aw_callVi lkX6_105 ckX4_listsReference (cs_ isSt_34) rfl (d := 1) (by decide) [.inl a1, .inl a2] rfl rfl (Nat.le_of_ble_eq_true rfl) dX6_addReference_30 rfl (Runs.fn ((ct_X4_listsReference isSt_34) ((h.2.2 c1).2.1 c2).1) (aw_if_eq 39 dX6_addReference_33 (by decide) (fun c3 => (aw_aload_n dX6_addReference_39 rfl (aw_getr 34 fkX6_19 fa_0_1 dX6_addReference_40 (aw_geti fkX6_109 (fs_5 isSt_34) dX6_addReference_43 (aw_bipush 10 dX6_addReference_46 (by decide) (aw_icmp_lt 54 dX6_addReference_48 (by decide) (fun c4 => (aw_aload_n dX6_addReference_54 rfl (aw_callVv lkX6_73 ckX6_saveState ca_0 rfl (d := 3) (by decide) [] rfl rfl (Nat.le_of_ble_eq_true rfl) dX6_addReference_55 rfl (Runs.mono ((((h.2.2 c1).2.1 c2).2.1 c3).1 c4) (fun r1 g1 h1_ => (aw_aload_n dX6_addReference_58 rfl (aw_getr 34 fkX6_19 fa_0_1 dX6_addReference_59 (aw_iload_n dX6_addReference_62 rfl (aw_iload_n dX6_addReference_63 rfl (aw_callVv lkX6_112 ckX4_listReference (cs_ isSt_34) rfl (d := 1) (by decide) [.inl a1, .inl a2] rfl rfl (Nat.le_of_ble_eq_true rfl) dX6_addReference_64 rfl (Runs.mono h1_ (fun r2 g2 h2_ => (aw_aload_n dX6_addReference_67 rfl (aw_getr 34 fkX6_19 fa_0_1 dX6_addReference_68 (aw_callVv lkX6_80 ckX4_startRun (cs_ isSt_34) rfl (d := 3) (by decide) [] rfl rfl (Nat.le_of_ble_eq_true rfl) dX6_addReference_71 rfl (Runs.mono h2_ (fun r3 g3 h3_ => (aw_aload_n dX6_addReference_74 rfl (aw_getr 34 fkX6_19 fa_0_1 dX6_addReference_75 (aw_geti fkX6_109 (fs_5 isSt_34) dX6_addReference_78 (aw_iret rfl (vp_nar_int _) dX6_addReference_81 h3_))))))))))))))))))))) (fun c4 => (aw_bipush (-3) dX6_addReference_51 (by decide) (aw_iret rfl (vp_nar_int _) dX6_addReference_53 ((((h.2.2 c1).2.1 c2).2.1 c3).2 c4)))))))))) (fun c3 => (aw_bipush (-2) dX6_addReference_36 (by decide) (aw_iret rfl (vp_nar_int _) dX6_addReference_38 (((h.2.2 c1).2.1 c2).2.2 c3)))))))))))) (fun c2 => (aw_iconst (-1) dX6_addReference_22 (by decide) (aw_iret rfl (vp_nar_int _) dX6_addReference_23 ((h.2.2 c1).2.2 c2)))))))))))))))))
theorem oc_addReference {Γ : Gam} {a : Ab} {g : Mem} {x y : Int32} (h : CI a g) (hw : WA a) : Runs Γ 4 yX6_addReference iX6_addReference [.inr 0, .inl x, .inl y] g (OpC (sp_addReference a x y) g) := by
  have hr := hw.1.nr
  unfold sp_addReference
  refine Runs.intro (by decide) rfl (Nat.le_of_ble_eq_true rfl) (sg_X6_addReference_0 a.1 x y ⟨h.s hw, fun c1 => ?_, fun c1 => ⟨h.s hw, fun c2 => ⟨h.s hw, fun c3 => ?_, fun c3 => ?_⟩, fun c2 => ?_⟩⟩)
  · rw [bi_eq0] at c1; rw [if_neg (by simp [c1])]; exact OpC.same h
  · rw [bi_ne0] at c1 c2
    rw [bi_eq0, decide_eq_false_iff_not] at c3
    obtain ⟨x1, x2, x3⟩ := isH_ex hw.1 c1
    obtain ⟨y1, y2⟩ := inR_ex c2
    rw [if_pos (by simp [c1, c2]), if_neg c3, h.1.2.2.2.2.2.1, show (10 : Int32) = nI 10 from rfl, nI_ltI (by omega) (by decide)]
    refine ⟨fun c4 => (ct_X6_saveState h hw).mono (fun r g1 q => ?_), fun c4 => ?_⟩
    · obtain ⟨q1, q2, q3⟩ := q
      rw [if_neg (by omega)]
      have hc1 : CW 34 a.1 g1 := ⟨h.1.ext (fun k k1 k2 => q3 k (by omega) (by omega) (by omega)), hw.1⟩
      have hl := ct_X4_listReference (Γ := Γ) (h := x.toNatClampNeg) (o := y.toNatClampNeg) hc1 c4
      rw [← x2, ← y2] at hl
      refine hl.mono (fun r g2 z => ?_)
      refine start_after (r := nI (a.1 41 + 1)) (P := fun _ g3 => OpC _ g (g3 34 5) g3) h (hw.1.addR c4 x1 x3 y1) z.1 (q1.ext (z.2 4 (by decide) (by decide) (by decide)) (fun k hk => z.2 k (by omega) (by omega) (by omega))) (by rw [z.2 0 (by decide) (by decide) (by decide)]; exact q2) (fun k k1 k2 k3 => by rw [z.2 k (by omega) (by omega) (by omega), q3 k k1 k2 (by omega)]) (fun g3 hc q => ?_)
      have e : g3 34 5 = nI (a.1 41 + 1) := by rw [hc.2.2.2.2.2.1, beg_lo (by decide), addR_n]
      rw [e]
      exact q
    · rw [if_pos (by omega)]; exact OpC.same h
  · rw [bi_ne0] at c1 c2 c3
    rw [decide_eq_true_eq] at c3
    rw [if_pos (by simp [c1, c2]), if_pos c3]; exact OpC.same h
  · rw [bi_eq0] at c2; rw [if_neg (by simp [c2])]; exact OpC.same h
theorem sg_X7_addReference_0 {Γ : Gam} {P : Int32 → Mem → Prop}  (s : St) (a1 a2 : Int32) {g : Mem} (h : (MW 27 s (up g 26 0 0) ∧ (((bi (isH s a1)) = 0 → P (-1) (up g 26 0 0)) ∧ (¬ (bi (isH s a1)) = 0 → (MW 27 s (up g 26 0 0) ∧ ((¬ (bi (inR (s 0) a2)) = 0 → (MW 27 s (up g 26 0 0) ∧ (((fI (-9) (refP s a1 a2) (s 41)) = (-9) → ((¬ (g 27 41) = 10 → (Runs Γ 1 yX7_save iX7_save [.inr 26] (up g 26 0 0) (fun r1 g1 => (vp_in (42 + (2 * (g1 27 41))) 81 ∧ (vp_in ((42 + (2 * ((up g1 27 (42 + (2 * (g1 27 41))).toNatClampNeg a1) 27 41))) + 1) 81 ∧ (Runs Γ 1 yX7_beginRun iX7_beginRun [.inr 26] (up (up (up g1 27 (42 + (2 * (g1 27 41))).toNatClampNeg a1) 27 ((42 + (2 * ((up g1 27 (42 + (2 * (g1 27 41))).toNatClampNeg a1) 27 41))) + 1).toNatClampNeg a2) 27 41 (((up (up g1 27 (42 + (2 * (g1 27 41))).toNatClampNeg a1) 27 ((42 + (2 * ((up g1 27 (42 + (2 * (g1 27 41))).toNatClampNeg a1) 27 41))) + 1).toNatClampNeg a2) 27 41) + 1)) (fun r2 g2 => P (g2 27 41) g2))))))) ∧ ((g 27 41) = 10 → P (-3) (up g 26 0 0)))) ∧ (¬ (fI (-9) (refP s a1 a2) (s 41)) = (-9) → P (-2) (up g 26 0 0))))) ∧ ((bi (inR (s 0) a2)) = 0 → P (-1) (up g 26 0 0)))))))) : AW Γ 3 iX7_addReference P 0 [some (.inr 26), some (.inl a1), some (.inl a2)] [] g :=
  (aw_aload_n dX7_addReference_0 rfl (aw_iconst 0 dX7_addReference_1 (by decide) (aw_putf fpX7_32 fa_26_0 (vp_nar_int _) rfl dX7_addReference_2 (aw_aload_n dX7_addReference_5 rfl (aw_getr 27 fkX7_7 fa_26_1 dX7_addReference_6 (aw_iload_n dX7_addReference_9 rfl (aw_callSi lkX7_84 ckX7_isHolder (d := 2) (by decide) [.inr 27, .inl a1] rfl rfl (Nat.le_of_ble_eq_true rfl) dX7_addReference_10 rfl (Runs.fn ((ct_X7_isHolder aa_27) h.1) (aw_if_eq 24 dX7_addReference_13 (by decide) (fun c1 => (aw_iconst (-1) dX7_addReference_24 (by decide) (aw_iret rfl (vp_nar_int _) dX7_addReference_25 (h.2.1 c1)))) (fun c1 => (aw_aload_n dX7_addReference_16 rfl (aw_iload_n dX7_addReference_17 rfl (aw_callVi lkX7_108 ckX7_isObject ca_26 rfl (d := 2) (by decide) [.inl a2] rfl rfl (Nat.le_of_ble_eq_true rfl) dX7_addReference_18 rfl (Runs.fn (ct_X7_isObject (h.2.2 c1).1) (aw_if_ne 26 dX7_addReference_21 (by decide) (fun c2 => (aw_aload_n dX7_addReference_26 rfl (aw_getr 27 fkX7_7 fa_26_1 dX7_addReference_27 (aw_iload_n dX7_addReference_30 rfl (aw_iload_n dX7_addReference_31 rfl (aw_callSi lkX7_88 ckX7_indexOf (d := 1) (by decide) [.inr 27, .inl a1, .inl a2] rfl rfl (Nat.le_of_ble_eq_true rfl) dX7_addReference_32 rfl (Runs.fn ((ct_X7_indexOf aa_27) ((h.2.2 c1).2.1 c2).1) (aw_bipush (-9) dX7_addReference_35 (by decide) (aw_icmp_eq 43 dX7_addReference_37 (by decide) (fun c3 => (aw_aload_n dX7_addReference_43 rfl (aw_getr 27 fkX7_7 fa_26_1 dX7_addReference_44 (aw_bipush 41 dX7_addReference_47 (by decide) (aw_iald aa_27 dX7_addReference_49 (vp_lit 41 (by decide) (by decide)) (aw_bipush 10 dX7_addReference_50 (by decide) (aw_icmp_ne 58 dX7_addReference_52 (by decide) (fun c4 => (aw_aload_n dX7_addReference_58 rfl (aw_callVv lkX7_99 ckX7_save ca_26 rfl (d := 1) (by decide) [] rfl rfl (Nat.le_of_ble_eq_true rfl) dX7_addReference_59 rfl (Runs.mono ((((h.2.2 c1).2.1 c2).2.1 c3).1 c4) (fun r1 g1 h1_ => (aw_aload_n dX7_addReference_62 rfl (aw_getr 27 fkX7_7 fa_26_1 dX7_addReference_63 (aw_bipush 42 dX7_addReference_66 (by decide) (aw_iconst 2 dX7_addReference_68 (by decide) (aw_aload_n dX7_addReference_69 rfl (aw_getr 27 fkX7_7 fa_26_1 dX7_addReference_70 (aw_bipush 41 dX7_addReference_73 (by decide) (aw_iald aa_27 dX7_addReference_75 (vp_lit 41 (by decide) (by decide)) (aw_imul dX7_addReference_76 (aw_iadd dX7_addReference_77 (aw_iload_n dX7_addReference_78 rfl (aw_iast aa_27 dX7_addReference_79 h1_.1 (aw_aload_n dX7_addReference_80 rfl (aw_getr 27 fkX7_7 fa_26_1 dX7_addReference_81 (aw_bipush 42 dX7_addReference_84 (by decide) (aw_iconst 2 dX7_addReference_86 (by decide) (aw_aload_n dX7_addReference_87 rfl (aw_getr 27 fkX7_7 fa_26_1 dX7_addReference_88 (aw_bipush 41 dX7_addReference_91 (by decide) (aw_iald aa_27 dX7_addReference_93 (vp_lit 41 (by decide) (by decide)) (aw_imul dX7_addReference_94 (aw_iadd dX7_addReference_95 (aw_iconst 1 dX7_addReference_96 (by decide) (aw_iadd dX7_addReference_97 (aw_iload_n dX7_addReference_98 rfl (aw_iast aa_27 dX7_addReference_99 h1_.2.1 (aw_aload_n dX7_addReference_100 rfl (aw_getr 27 fkX7_7 fa_26_1 dX7_addReference_101 (aw_bipush 41 dX7_addReference_104 (by decide) (aw_dup2 dX7_addReference_106 (aw_iald aa_27 dX7_addReference_107 (vp_lit 41 (by decide) (by decide)) (aw_iconst 1 dX7_addReference_108 (by decide) (aw_iadd dX7_addReference_109 (aw_iast aa_27 dX7_addReference_110 (vp_lit 41 (by decide) (by decide)) (aw_aload_n dX7_addReference_111 rfl (aw_callVv lkX7_102 ckX7_beginRun ca_26 rfl (d := 1) (by decide) [] rfl rfl (Nat.le_of_ble_eq_true rfl) dX7_addReference_112 rfl (Runs.mono h1_.2.2 (fun r2 g2 h2_ => (aw_aload_n dX7_addReference_115 rfl (aw_getr 27 fkX7_7 fa_26_1 dX7_addReference_116 (aw_bipush 41 dX7_addReference_119 (by decide) (aw_iald aa_27 dX7_addReference_121 (vp_lit 41 (by decide) (by decide)) (aw_iret rfl (vp_nar_int _) dX7_addReference_122 h2_)))))))))))))))))))))))))))))))))))))))))))))))) (fun c4 => (aw_bipush (-3) dX7_addReference_55 (by decide) (aw_iret rfl (vp_nar_int _) dX7_addReference_57 ((((h.2.2 c1).2.1 c2).2.1 c3).2 c4))))))))))) (fun c3 => (aw_bipush (-2) dX7_addReference_40 (by decide) (aw_iret rfl (vp_nar_int _) dX7_addReference_42 (((h.2.2 c1).2.1 c2).2.2 c3))))))))))))) (fun c2 => (aw_iconst (-1) dX7_addReference_24 (by decide) (aw_iret rfl (vp_nar_int _) dX7_addReference_25 ((h.2.2 c1).2.2 c2)))))))))))))))))))
theorem om_addReference {Γ : Gam} {a : Ab} {g : Mem} {x y : Int32} (h : MI a g) (hw : WA a) : Runs Γ 3 yX7_addReference iX7_addReference [.inr 26, .inl x, .inl y] g (OpM (sp_addReference a x y) g) := by
  have hr := hw.1.nr
  unfold sp_addReference
  refine Runs.intro (by decide) rfl (Nat.le_of_ble_eq_true rfl) (sg_X7_addReference_0 a.1 x y ⟨h.thr.s hw, fun c1 => ?_, fun c1 => ⟨h.thr.s hw, fun c2 => ⟨h.thr.s hw, fun c3 => ?_, fun c3 => ?_⟩, fun c2 => ?_⟩⟩)
  · rw [bi_eq0] at c1; rw [if_neg (by simp [c1])]; exact OpM.same h
  · rw [bi_ne0] at c1 c2
    have c3' : ¬ ff (refP a.1 x y) 0 (a.1 41) < a.1 41 := fun q => by
      rw [fI, if_pos q] at c3
      exact nI_ne_neg (by omega) (by decide) c3
    obtain ⟨x1, x2, x3⟩ := isH_ex hw.1 c1
    obtain ⟨y1, y2⟩ := inR_ex c2
    rw [if_pos (by simp [c1, c2]), if_neg c3', h.1 41 (by decide), show (10 : Int32) = nI 10 from rfl, nI_eq (by omega) (by decide)]
    refine ⟨fun c4 => (ct_X7_save' h.thr).mono (fun r g1 q => ?_), fun c4 => ?_⟩
    · have hm : MA 27 a.1 g1 := q.1.1
      rw [if_neg c4, hm 41 (by decide), n42, ix_nI (by omega), up_nx (by omega), hm 41 (by decide), n42, nI_1, ix_nI (by omega), up_nx (by omega), up_nx (by omega), hm 41 (by decide), nI_1]
      refine ⟨vp_nI (by omega) (by decide), vp_nI (by omega) (by decide), ?_⟩
      refine mstart (r := nI (a.1 41 + 1)) (P := fun _ g3 => OpM _ g (g3 27 41) g3) (s' := addR a.1 x.toNatClampNeg y.toNatClampNeg) q.1 ((frM_thr g).trans q.2) (hw.1.addR (by omega) x1 x3 y1) (MA.setx (MA.setx (MA.setx hm x2) y2) rfl) (fun k hk => by rw [up_ne hk, up_ne hk, up_ne hk]) (fun g3 hc q => ?_)
      have e : g3 27 41 = nI (a.1 41 + 1) := by rw [hc 41 (by decide), beg_lo (by decide), addR_n]
      rw [e]
      exact q
    · rw [if_pos c4]; exact OpM.same h
  · rw [bi_ne0] at c1 c2
    have c3' : ff (refP a.1 x y) 0 (a.1 41) < a.1 41 := by
      rcases Nat.lt_or_ge (ff (refP a.1 x y) 0 (a.1 41)) (a.1 41) with q | q
      · exact q
      · exact absurd (by rw [fI, if_neg (by omega)]) c3
    rw [if_pos (by simp [c1, c2]), if_pos c3']; exact OpM.same h
  · rw [bi_eq0] at c2; rw [if_neg (by simp [c2])]; exact OpM.same h
theorem wa_addReference {a : Ab} {x y : Int32} (hw : WA a) : WA (sp_addReference a x y).2 := by
  unfold sp_addReference
  split
  · rename_i c
    rw [Bool.and_eq_true] at c
    split
    · exact hw
    · split
      · exact hw
      · obtain ⟨x1, x2, x3⟩ := isH_ex hw.1 c.1
        have hr := hw.1.nr
        exact hw.psh (hw.1.addR (by omega) x1 x3 (inR_ex c.2).1).beg
  · exact hw
