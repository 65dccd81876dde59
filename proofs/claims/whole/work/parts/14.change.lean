/-! Calls that change the system. -/
theorem sg_X6_holdsInRun_0 {Γ : Gam} {P : Int32 → Mem → Prop}  (s : St) (a1 a2 : Int32) {g : Mem} (h : (CW 34 s g ∧ ((¬ (bi (inR (s 0) a1 && inR (s 0) a2)) = 0 → ((CW 34 s g ∧ inR 10 a1 = true) ∧ (((bi (hasB (nI (s (71 + a1.toNatClampNeg))) a2)) = 0 → P 0 g) ∧ (¬ (bi (hasB (nI (s (71 + a1.toNatClampNeg))) a2)) = 0 → P 1 g)))) ∧ ((bi (inR (s 0) a1 && inR (s 0) a2)) = 0 → P (-1) g)))) : AW Γ 3 iX6_holdsInRun P 0 [some (.inr 0), some (.inl a1), some (.inl a2)] [] g :=
  (aw_aload_n dX6_holdsInRun_0 rfl (aw_getr 34 fkX6_19 fa_0_1 dX6_holdsInRun_1 (aw_iload_n dX6_holdsInRun_4 rfl (aw_iload_n dX6_holdsInRun_5 rfl (aw_callVi lkX6_120 ckX4_hasBoth (cs_ isSt_34) rfl (d := 2) (by decide) [.inl a1, .inl a2] rfl rfl (Nat.le_of_ble_eq_true rfl) dX6_holdsInRun_6 rfl (Runs.fn ((ct_X4_hasBoth isSt_34) h.1) (aw_if_ne 14 dX6_holdsInRun_9 (by decide) (fun c1 => (aw_aload_n dX6_holdsInRun_14 rfl (aw_getr 34 fkX6_19 fa_0_1 dX6_holdsInRun_15 (aw_iload_n dX6_holdsInRun_18 rfl (aw_iload_n dX6_holdsInRun_19 rfl (aw_callVi lkX6_183 ckX4_runHolds (cs_ isSt_34) rfl (d := 2) (by decide) [.inl a1, .inl a2] rfl rfl (Nat.le_of_ble_eq_true rfl) dX6_holdsInRun_20 rfl (Runs.fn ((ct_X4_runHolds isSt_34) (h.2.1 c1).1) (aw_if_eq 30 dX6_holdsInRun_23 (by decide) (fun c2 => (aw_iconst 0 dX6_holdsInRun_30 (by decide) (aw_iret rfl (vp_nar_int _) dX6_holdsInRun_31 ((h.2.1 c1).2.1 c2)))) (fun c2 => (aw_iconst 1 dX6_holdsInRun_26 (by decide) (aw_goto 31 dX6_holdsInRun_27 (by decide) (aw_iret rfl (vp_nar_int _) dX6_holdsInRun_31 ((h.2.1 c1).2.2 c2))))))))))))) (fun c1 => (aw_iconst (-1) dX6_holdsInRun_12 (by decide) (aw_iret rfl (vp_nar_int _) dX6_holdsInRun_13 (h.2.2 c1)))))))))))
theorem oc_holdsInRun {Γ : Gam} {a : Ab} {g : Mem} {x y : Int32} (h : CI a g) (hw : WA a) : Runs Γ 3 yX6_holdsInRun iX6_holdsInRun [.inr 0, .inl x, .inl y] g (OpC (sp_holdsInRun a x y, a) g) := by
  unfold sp_holdsInRun
  refine Runs.intro (by decide) rfl (Nat.le_of_ble_eq_true rfl) (sg_X6_holdsInRun_0 a.1 x y ⟨h.s hw, fun c1 => ?_, fun c1 => ?_⟩)
  · rw [bi_ne0] at c1
    have c0 := c1
    rw [Bool.and_eq_true] at c1
    refine ⟨⟨h.s hw, inR_10 hw.1 c1.1⟩, fun c2 => ?_, fun c2 => ?_⟩
    · rw [if_pos c0, c2]; exact OpC.same h
    · rw [bi_ne0] at c2; rw [if_pos c0, c2]; exact OpC.same h
  · rw [bi_eq0] at c1; rw [if_neg (by simp [c1])]; exact OpC.same h
theorem sg_X7_holdsInRun_0 {Γ : Gam} {P : Int32 → Mem → Prop}  (s : St) (a1 a2 : Int32) {g : Mem} (h : (MW 27 s (up g 26 0 0) ∧ ((¬ (bi (inR (s 0) a1 && inR (s 0) a2)) = 0 → ((MW 27 s (up g 26 0 0) ∧ inR 10 a1 = true) ∧ (((bi (hasB (nI (s (71 + a1.toNatClampNeg))) a2)) = 0 → P 0 (up g 26 0 0)) ∧ (¬ (bi (hasB (nI (s (71 + a1.toNatClampNeg))) a2)) = 0 → P 1 (up g 26 0 0))))) ∧ ((bi (inR (s 0) a1 && inR (s 0) a2)) = 0 → P (-1) (up g 26 0 0))))) : AW Γ 4 iX7_holdsInRun P 0 [some (.inr 26), some (.inl a1), some (.inl a2)] [] g :=
  (aw_aload_n dX7_holdsInRun_0 rfl (aw_iconst 0 dX7_holdsInRun_1 (by decide) (aw_putf fpX7_32 fa_26_0 (vp_nar_int _) rfl dX7_holdsInRun_2 (aw_aload_n dX7_holdsInRun_5 rfl (aw_iload_n dX7_holdsInRun_6 rfl (aw_iload_n dX7_holdsInRun_7 rfl (aw_callVi lkX7_166 ckX7_areObjects ca_26 rfl (d := 3) (by decide) [.inl a1, .inl a2] rfl rfl (Nat.le_of_ble_eq_true rfl) dX7_holdsInRun_8 rfl (Runs.fn (ct_X7_areObjects h.1) (aw_if_ne 18 dX7_holdsInRun_11 (by decide) (fun c1 => (aw_aload_n dX7_holdsInRun_18 rfl (aw_iload_n dX7_holdsInRun_19 rfl (aw_iload_n dX7_holdsInRun_20 rfl (aw_callVi lkX7_197 ckX7_holds ca_26 rfl (d := 2) (by decide) [.inl a1, .inl a2] rfl rfl (Nat.le_of_ble_eq_true rfl) dX7_holdsInRun_21 rfl (Runs.fn (ct_X7_holds (h.2.1 c1).1) (aw_if_eq 31 dX7_holdsInRun_24 (by decide) (fun c2 => (aw_iconst 0 dX7_holdsInRun_31 (by decide) (aw_iret rfl (vp_nar_int _) dX7_holdsInRun_32 ((h.2.1 c1).2.1 c2)))) (fun c2 => (aw_iconst 1 dX7_holdsInRun_27 (by decide) (aw_goto 32 dX7_holdsInRun_28 (by decide) (aw_iret rfl (vp_nar_int _) dX7_holdsInRun_32 ((h.2.1 c1).2.2 c2)))))))))))) (fun c1 => (aw_iconst (-1) dX7_holdsInRun_14 (by decide) (aw_goto 32 dX7_holdsInRun_15 (by decide) (aw_iret rfl (vp_nar_int _) dX7_holdsInRun_32 (h.2.2 c1))))))))))))))
theorem om_holdsInRun {Γ : Gam} {a : Ab} {g : Mem} {x y : Int32} (h : MI a g) (hw : WA a) : Runs Γ 4 yX7_holdsInRun iX7_holdsInRun [.inr 26, .inl x, .inl y] g (OpM (sp_holdsInRun a x y, a) g) := by
  unfold sp_holdsInRun
  refine Runs.intro (by decide) rfl (Nat.le_of_ble_eq_true rfl) (sg_X7_holdsInRun_0 a.1 x y ⟨h.thr.s hw, fun c1 => ?_, fun c1 => ?_⟩)
  · rw [bi_ne0] at c1
    have c0 := c1
    rw [Bool.and_eq_true] at c1
    refine ⟨⟨h.thr.s hw, inR_10 hw.1 c1.1⟩, fun c2 => ?_, fun c2 => ?_⟩
    · rw [if_pos c0, c2]; exact OpM.same h
    · rw [bi_ne0] at c2; rw [if_pos c0, c2]; exact OpM.same h
  · rw [bi_eq0] at c1; rw [if_neg (by simp [c1])]; exact OpM.same h
def sset (s : St) (j v : Nat) : St := fun i => if i = j then v else s i
theorem sset_at (s : St) (j v : Nat) : sset s j v j = v := by simp [sset]
theorem sset_ne {s : St} {j v i : Nat} (h : i ≠ j) : sset s j v i = s i := by simp [sset, h]
theorem push_wf {hs : List St} {s : St} (h : ∀ t, t ∈ hs → WF t) (hl : hs.length ≤ 5) (hw : WF s) : ∀ t, t ∈ push hs s → WF t := by
  intro t ht
  unfold push at ht
  split at ht
  · rcases List.mem_append.mp ht with q | q
    · exact h t (List.mem_of_mem_tail q)
    · rw [List.mem_singleton.mp q]; exact hw
  · rcases List.mem_append.mp ht with q | q
    · exact h t q
    · rw [List.mem_singleton.mp q]; exact hw
theorem WA.psh {a : Ab} {s' : St} (hw : WA a) (h : WF s') : WA (s', push a.2.1 a.1, a.2.2.1, a.2.2.2) := by
  refine ⟨h, push_wf hw.2.1 hw.2.2.1 hw.1, ?_, hw.2.2.2⟩
  have := push_len (s := a.1) hw.2.2.1
  show (push a.2.1 a.1).length ≤ 5
  rw [this]
  have := hw.2.2.1
  split <;> omega
theorem WF.beg {s : St} (hw : WF s) : WF (beg s) := by
  have hn := hw.n
  have hr := hw.nr
  have hq := hw.nq
  refine ⟨by rw [beg_lo (by decide)]; exact hn, fun i hi => ?_, by rw [beg_lo (by decide)]; exact hr, fun k hk => ?_, by rw [beg_lo (by decide)]; exact hq, fun k hk => ?_, fun i hi => ?_⟩
  · rw [beg_lo (by decide)] at hi
    have ho := hw.o hi
    unfold OkO at ho ⊢
    rw [beg_lo (show 0 < 71 by decide), beg_lo (show 1 + i < 71 by omega), beg_lo (show 31 + i < 71 by omega), beg_lo (show 11 + i < 71 by omega), beg_lo (show 21 + i < 71 by omega)]
    refine ⟨ho.1, ho.2.1, ho.2.2.1, ho.2.2.2.1, ho.2.2.2.2.1, fun e => ⟨(ho.2.2.2.2.2 e).1, ?_⟩⟩
    have := (ho.2.2.2.2.2 e).1
    rw [beg_lo (by omega)]
    exact (ho.2.2.2.2.2 e).2
  · rw [beg_lo (by decide)] at hk
    have h1 := hw.rf hk
    rw [beg_lo (show 0 < 71 by decide), beg_lo (show 42 + 2 * k < 71 by omega), beg_lo (show 42 + 2 * k + 1 < 71 by omega), beg_lo (by omega)]
    exact h1
  · rw [beg_lo (by decide)] at hk
    have h1 := hw.rq hk
    rw [beg_lo (show 0 < 71 by decide), beg_lo (show 63 + 2 * k < 71 by omega), beg_lo (show 63 + 2 * k + 1 < 71 by omega)]
    exact h1
  · rw [beg_run hi]; exact rowsK_lt hw 0 i _ (Nat.le_refl _)
/-! setBehaviour, setGroup -/
theorem WF.beh {s : St} (hw : WF s) {i v : Nat} (hi : i < s 0) (hk : s (1 + i) = 0) (hv : v ≤ 15) : WF (sset s (11 + i) v) := by
  have hn := hw.n
  have hr := hw.nr
  have hq := hw.nq
  refine ⟨by rw [sset_ne (by omega)]; exact hn, fun j hj => ?_, by rw [sset_ne (by omega)]; exact hr, fun k hk => ?_, by rw [sset_ne (by omega)]; exact hq, fun k hk => ?_, fun j hj => by rw [sset_ne (by omega)]; exact hw.rn hj⟩
  · rw [sset_ne (by omega)] at hj
    have ho := hw.o hj
    unfold OkO at ho ⊢
    rw [sset_ne (show 0 ≠ 11 + i by omega), sset_ne (show 1 + j ≠ 11 + i by omega), sset_ne (show 31 + j ≠ 11 + i by omega), sset_ne (show 21 + j ≠ 11 + i by omega)]
    by_cases e : j = i
    · subst e
      rw [sset_at]
      exact ⟨ho.1, ho.2.1, fun _ => hv, fun e => by omega, fun e => by omega, fun e => by omega⟩
    · rw [sset_ne (show 11 + j ≠ 11 + i by omega)]
      refine ⟨ho.1, ho.2.1, ho.2.2.1, ho.2.2.2.1, ho.2.2.2.2.1, fun e => ⟨(ho.2.2.2.2.2 e).1, ?_⟩⟩
      have := (ho.2.2.2.2.2 e).1
      rw [sset_ne (by omega)]
      exact (ho.2.2.2.2.2 e).2
  · rw [sset_ne (by omega)] at hk
    have h1 := hw.rf hk
    rw [sset_ne (show 0 ≠ 11 + i by omega), sset_ne (show 42 + 2 * k ≠ 11 + i by omega), sset_ne (show 42 + 2 * k + 1 ≠ 11 + i by omega), sset_ne (by omega)]
    exact h1
  · rw [sset_ne (by omega)] at hk
    have h1 := hw.rq hk
    rw [sset_ne (show 0 ≠ 11 + i by omega), sset_ne (show 63 + 2 * k ≠ 11 + i by omega), sset_ne (show 63 + 2 * k + 1 ≠ 11 + i by omega)]
    exact h1
theorem WF.grp {s : St} (hw : WF s) {i v : Nat} (hi : i < s 0) (hv : v ≤ 5) : WF (sset s (31 + i) v) := by
  have hn := hw.n
  have hr := hw.nr
  have hq := hw.nq
  refine ⟨by rw [sset_ne (by omega)]; exact hn, fun j hj => ?_, by rw [sset_ne (by omega)]; exact hr, fun k hk => ?_, by rw [sset_ne (by omega)]; exact hq, fun k hk => ?_, fun j hj => by rw [sset_ne (by omega)]; exact hw.rn hj⟩
  · rw [sset_ne (by omega)] at hj
    have ho := hw.o hj
    unfold OkO at ho ⊢
    rw [sset_ne (show 0 ≠ 31 + i by omega), sset_ne (show 1 + j ≠ 31 + i by omega), sset_ne (show 11 + j ≠ 31 + i by omega), sset_ne (show 21 + j ≠ 31 + i by omega)]
    refine ⟨ho.1, ?_, ho.2.2.1, ho.2.2.2.1, ho.2.2.2.2.1, fun e => ⟨(ho.2.2.2.2.2 e).1, ?_⟩⟩
    · unfold sset; split
      · exact hv
      · exact ho.2.1
    · have := (ho.2.2.2.2.2 e).1
      rw [sset_ne (by omega)]
      exact (ho.2.2.2.2.2 e).2
  · rw [sset_ne (by omega)] at hk
    have h1 := hw.rf hk
    rw [sset_ne (show 0 ≠ 31 + i by omega), sset_ne (show 42 + 2 * k ≠ 31 + i by omega), sset_ne (show 42 + 2 * k + 1 ≠ 31 + i by omega), sset_ne (by omega)]
    exact h1
  · rw [sset_ne (by omega)] at hk
    have h1 := hw.rq hk
    rw [sset_ne (show 0 ≠ 31 + i by omega), sset_ne (show 63 + 2 * k ≠ 31 + i by omega), sset_ne (show 63 + 2 * k + 1 ≠ 31 + i by omega)]
    exact h1
theorem CS.beh {s : St} {g : Mem} (hw : WF s) (h : CS 34 s g) {i v : Nat} (hi : i < s 0) (hk : s (1 + i) = 0) : CS 34 (sset s (11 + i) v) (up g 36 i (nI v)) := by
  have hn := hw.n
  have hr := hw.nr
  have hq := hw.nq
  obtain ⟨c1, c2, c3, c4, c5, c6, c7, c8, c9, c10⟩ := h
  unfold CS
  rw [up_ne (show 34 ≠ 36 by decide), up_ne (show 34 + 1 ≠ 36 by decide), up_ne (show 34 + 3 ≠ 36 by decide), up_ne (show 34 + 4 ≠ 36 by decide), up_ne (show 34 + 5 ≠ 36 by decide), up_ne (show 34 + 6 ≠ 36 by decide), up_ne (show 34 + 7 ≠ 36 by decide), up_ne (show 34 + 8 ≠ 36 by decide), up_ne (show 34 + 9 ≠ 36 by decide), sset_ne (show 0 ≠ 11 + i by omega), sset_ne (show 41 ≠ 11 + i by omega), sset_ne (show 62 ≠ 11 + i by omega)]
  refine ⟨c1, fun j hj => ?_, fun j hj hk2 => ?_, fun j hj => ?_, fun j hj => ?_, c6, fun j hj => ?_, c8, fun j hj => ?_, fun j hj => ?_⟩
  · rw [sset_ne (by omega)]; exact c2 j hj
  · rw [sset_ne (by omega)] at hk2
    by_cases e : j = i
    · subst e; rw [sset_at]; exact up_at _ _ _ _
    · rw [sset_ne (by omega)]
      show up g 36 i (nI v) 36 j = _
      rw [up_nx e]; exact c3 j hj hk2
  · rw [sset_ne (by omega), sset_ne (show 21 + j ≠ 11 + i by omega)]
    refine ⟨(c4 j hj).1, fun e => ?_⟩
    have e2 : j ≠ i := fun q => by subst q; omega
    rw [sset_ne (by omega)]; exact (c4 j hj).2 e
  · rw [sset_ne (by omega)]; exact c5 j hj
  · rw [sset_ne (by omega), sset_ne (by omega)]; exact c7 j hj
  · rw [sset_ne (by omega), sset_ne (by omega)]; exact c9 j hj
  · rw [sset_ne (by omega)]; exact c10 j hj
theorem CS.grp {s : St} {g : Mem} (hw : WF s) (h : CS 34 s g) {i v : Nat} (hi : i < s 0) : CS 34 (sset s (31 + i) v) (up g 38 i (nI v)) := by
  have hn := hw.n
  have hr := hw.nr
  have hq := hw.nq
  obtain ⟨c1, c2, c3, c4, c5, c6, c7, c8, c9, c10⟩ := h
  unfold CS
  rw [up_ne (show 34 ≠ 38 by decide), up_ne (show 34 + 1 ≠ 38 by decide), up_ne (show 34 + 2 ≠ 38 by decide), up_ne (show 34 + 3 ≠ 38 by decide), up_ne (show 34 + 5 ≠ 38 by decide), up_ne (show 34 + 6 ≠ 38 by decide), up_ne (show 34 + 7 ≠ 38 by decide), up_ne (show 34 + 8 ≠ 38 by decide), up_ne (show 34 + 9 ≠ 38 by decide), sset_ne (show 0 ≠ 31 + i by omega), sset_ne (show 41 ≠ 31 + i by omega), sset_ne (show 62 ≠ 31 + i by omega)]
  refine ⟨c1, fun j hj => ?_, fun j hj hk2 => ?_, fun j hj => ?_, fun j hj => ?_, c6, fun j hj => ?_, c8, fun j hj => ?_, fun j hj => ?_⟩
  · rw [sset_ne (by omega)]; exact c2 j hj
  · rw [sset_ne (by omega)] at hk2
    rw [sset_ne (by omega)]; exact c3 j hj hk2
  · rw [sset_ne (by omega), sset_ne (show 21 + j ≠ 31 + i by omega), sset_ne (show 11 + j ≠ 31 + i by omega)]
    exact c4 j hj
  · by_cases e : j = i
    · subst e; rw [sset_at]; exact up_at _ _ _ _
    · rw [sset_ne (by omega)]
      show up g 38 i (nI v) 38 j = _
      rw [up_nx e]; exact c5 j hj
  · rw [sset_ne (by omega), sset_ne (by omega)]; exact c7 j hj
  · rw [sset_ne (by omega), sset_ne (by omega)]; exact c9 j hj
  · rw [sset_ne (by omega)]; exact c10 j hj
def sp_set (a : Ab) (p w : Nat) : Int32 × Ab := if a.1 p = w then (-2, a) else (nI (a.1 p), (beg (sset a.1 p w), push a.2.1 a.1, a.2.2.1, a.2.2.2))
def sp_setBehaviour (a : Ab) (x v : Int32) : Int32 × Ab := if isK a.1 x 0 && inI v 0 15 then sp_set a (11 + x.toNatClampNeg) v.toNatClampNeg else (-1, a)
def sp_setGroup (a : Ab) (x v : Int32) : Int32 × Ab := if inR (a.1 0) x && inI v 0 5 then sp_set a (31 + x.toNatClampNeg) v.toNatClampNeg else (-1, a)
/-- behind a save: the run begun again -/
theorem start_after {Γ : Gam} {a : Ab} {s' : St} {g g2 : Mem} {r : Int32} (h : CI a g) (hw' : WF s') (hs : CS 34 s' g2) (hh : HC (push a.2.1 a.1) g2) (h0 : g2 0 8 = 0) (hf : ∀ k, k ≠ 0 → k ≠ 4 → k < 34 → g2 k = g k) {P : Int32 → Mem → Prop} (hP : ∀ g3, CS 34 (beg s') g3 → OpC (r, (beg s', push a.2.1 a.1, a.2.2.1, a.2.2.2)) g r g3 → P 0 g3) : Runs Γ 3 yX4_startRun iX4_startRun [.inr 34] g2 (fun _ g3 => P 0 g3) := by
  refine (ct_X4_startRun isSt_34 ⟨hs, hw'⟩).mono (fun r g3 q => hP g3 q.2 ⟨rfl, ?_, ?_⟩)
  · refine h.saved q.2 (hh.ext (q.1 4 (by decide)) (fun k hk => q.1 k (by omega))) (by rw [q.1 0 (by decide)]; exact h0) (fun k k1 k2 => by rw [q.1 k (by omega), hf k (by omega) (by omega) (by omega)])
  · exact fun k k1 k2 => by rw [q.1 k (by omega), hf k (by omega) (by omega) (by omega)]
theorem inI_lt {v : Int32} {n : Nat} (hn : n < 2 ^ 30) : inI v 0 (nI n) = (decide (¬ v < 0) && decide (v < nI (n + 1))) := by
  rw [Bool.eq_iff_iff]
  simp only [inI, Bool.and_eq_true, decide_eq_true_eq]
  rw [le_iff32, le_iff32, lt_iff32, lt_iff32, nI_toInt (by omega), nI_toInt (by omega), show (0 : Int32).toInt = 0 from rfl]
  omega
theorem sg_X6_setBehaviour_0 {Γ : Gam} {P : Int32 → Mem → Prop}  (s : St) (a1 a2 : Int32) {g : Mem} (h : (CW 34 s g ∧ (((bi (isK s a1 0)) = 0 → P (-1) g) ∧ (¬ (bi (isK s a1 0)) = 0 → ((a2 < 0 → P (-1) g) ∧ (¬ (a2 < 0) → ((a2 < 16 → (vp_in a1 10 ∧ ((¬ (g 36 a1.toNatClampNeg) = a2 → (Runs Γ 3 yX6_saveState iX6_saveState [.inr 0] g (fun r1 g1 => (vp_in a1 10 ∧ (Runs Γ 3 yX4_startRun iX4_startRun [.inr 34] (up g1 36 a1.toNatClampNeg a2) (fun r2 g2 => P (g 36 a1.toNatClampNeg) g2)))))) ∧ ((g 36 a1.toNatClampNeg) = a2 → P (-2) g)))) ∧ (¬ (a2 < 16) → P (-1) g)))))))) : AW Γ 4 iX6_setBehaviour P 0 [some (.inr 0), some (.inl a1), some (.inl a2)] [] g :=
  (aw_aload_n dX6_setBehaviour_0 rfl (aw_getr 34 fkX6_19 fa_0_1 dX6_setBehaviour_1 (aw_iload_n dX6_setBehaviour_4 rfl (aw_callVi lkX6_93 ckX4_isAgent (cs_ isSt_34) rfl (d := 2) (by decide) [.inl a1] rfl rfl (Nat.le_of_ble_eq_true rfl) dX6_setBehaviour_5 rfl (Runs.fn ((ct_X4_isAgent isSt_34) h.1) (aw_if_eq 21 dX6_setBehaviour_8 (by decide) (fun c1 => (aw_iconst (-1) dX6_setBehaviour_21 (by decide) (aw_iret rfl (vp_nar_int _) dX6_setBehaviour_22 (h.2.1 c1)))) (fun c1 => (aw_iload_n dX6_setBehaviour_11 rfl (aw_if_lt 21 dX6_setBehaviour_12 (by decide) (fun c2 => (aw_iconst (-1) dX6_setBehaviour_21 (by decide) (aw_iret rfl (vp_nar_int _) dX6_setBehaviour_22 ((h.2.2 c1).1 c2)))) (fun c2 => (aw_iload_n dX6_setBehaviour_15 rfl (aw_bipush 16 dX6_setBehaviour_16 (by decide) (aw_icmp_lt 23 dX6_setBehaviour_18 (by decide) (fun c3 => (aw_aload_n dX6_setBehaviour_23 rfl (aw_getr 34 fkX6_19 fa_0_1 dX6_setBehaviour_24 (aw_getr 36 fkX6_96 (fs_2 isSt_34) dX6_setBehaviour_27 (aw_iload_n dX6_setBehaviour_30 rfl (aw_iald (as_2 (b := 34) isSt_34) dX6_setBehaviour_31 (((h.2.2 c1).2 c2).1 c3).1 (aw_istore_n [some (.inr 0), some (.inl a1), some (.inl a2), some (.inl (g 36 a1.toNatClampNeg))] dX6_setBehaviour_32 (by decide) rfl (aw_iload_n dX6_setBehaviour_33 rfl (aw_iload_n dX6_setBehaviour_34 rfl (aw_icmp_ne 41 dX6_setBehaviour_35 (by decide) (fun c4 => (aw_aload_n dX6_setBehaviour_41 rfl (aw_callVv lkX6_73 ckX6_saveState ca_0 rfl (d := 3) (by decide) [] rfl rfl (Nat.le_of_ble_eq_true rfl) dX6_setBehaviour_42 rfl (Runs.mono ((((h.2.2 c1).2 c2).1 c3).2.1 c4) (fun r1 g1 h1_ => (aw_aload_n dX6_setBehaviour_45 rfl (aw_getr 34 fkX6_19 fa_0_1 dX6_setBehaviour_46 (aw_getr 36 fkX6_96 (fs_2 isSt_34) dX6_setBehaviour_49 (aw_iload_n dX6_setBehaviour_52 rfl (aw_iload_n dX6_setBehaviour_53 rfl (aw_iast (as_2 (b := 34) isSt_34) dX6_setBehaviour_54 h1_.1 (aw_aload_n dX6_setBehaviour_55 rfl (aw_getr 34 fkX6_19 fa_0_1 dX6_setBehaviour_56 (aw_callVv lkX6_80 ckX4_startRun (cs_ isSt_34) rfl (d := 3) (by decide) [] rfl rfl (Nat.le_of_ble_eq_true rfl) dX6_setBehaviour_59 rfl (Runs.mono h1_.2 (fun r2 g2 h2_ => (aw_iload_n dX6_setBehaviour_62 rfl (aw_iret rfl (vp_nar_int _) dX6_setBehaviour_63 h2_)))))))))))))))))) (fun c4 => (aw_bipush (-2) dX6_setBehaviour_38 (by decide) (aw_iret rfl (vp_nar_int _) dX6_setBehaviour_40 ((((h.2.2 c1).2 c2).1 c3).2.2 c4)))))))))))))) (fun c3 => (aw_iconst (-1) dX6_setBehaviour_21 (by decide) (aw_iret rfl (vp_nar_int _) dX6_setBehaviour_22 (((h.2.2 c1).2 c2).2 c3)))))))))))))))))
theorem oc_setBehaviour {Γ : Gam} {a : Ab} {g : Mem} {x v : Int32} (h : CI a g) (hw : WA a) : Runs Γ 4 yX6_setBehaviour iX6_setBehaviour [.inr 0, .inl x, .inl v] g (OpC (sp_setBehaviour a x v) g) := by
  have e15 : inI v 0 15 = (decide (¬ v < 0) && decide (v < 16)) := inI_lt (n := 15) (by decide)
  unfold sp_setBehaviour
  refine Runs.intro (by decide) rfl (Nat.le_of_ble_eq_true rfl) (sg_X6_setBehaviour_0 a.1 x v ⟨h.s hw, fun c1 => ?_, fun c1 => ⟨fun c2 => ?_, fun c2 => ⟨fun c3 => ?_, fun c3 => ?_⟩⟩⟩)
  · rw [bi_eq0] at c1; rw [if_neg (by simp [c1])]; exact OpC.same h
  · rw [if_neg (by simp [e15, c2])]; exact OpC.same h
  · rw [bi_ne0] at c1
    have hi : inI v 0 15 = true := by rw [e15]; simp [c2, c3]
    obtain ⟨v1, v2⟩ := inI_ex (n := 15) (by decide) hi
    obtain ⟨x1, x2⟩ := isK_kd hw.1 (k := 0) (by decide) c1
    have x3 := (inR_ex (isK_in c1).1).2
    have hvp := vp_inR (isK_in c1).1 hw.1.n (show 10 < 2 ^ 31 by decide)
    have hfi := hw.1.fi x1
    rw [if_pos (by simp [c1, hi]), h.1.2.2.1 _ x1 (by omega)]
    unfold sp_set
    refine ⟨hvp, fun c4 => (ct_X6_saveState h hw).mono (fun r g1 q => ⟨hvp, ?_⟩), fun c4 => ?_⟩
    · rw [if_neg (fun e => c4 (by rw [e]; exact v2.symm))]
      obtain ⟨q1, q2, q3⟩ := q
      refine start_after (P := fun _ g3 => OpC _ g _ g3) h (hw.1.beh x1 x2 v1) ?_ (q1.ext (up_ne (by decide)) (fun k hk => up_ne (by omega))) (by rw [up_ne (by decide)]; exact q2) (fun k k1 k2 k3 => by rw [up_ne (by omega), q3 k k1 k2 (by omega)]) (fun g3 _ q => q)
      have := CS.beh (v := v.toNatClampNeg) hw.1 (h.1.ext (g' := g1) (fun k k1 k2 => q3 k (by omega) (by omega) (by omega))) x1 x2
      rw [← v2] at this
      exact this
    · rw [if_pos (by
        rw [v2, nI_eq (by omega) (by omega)] at c4
        exact c4)]
      exact OpC.same h
  · rw [if_neg (by simp [e15, c3])]; exact OpC.same h
theorem sg_X6_setGroup_0 {Γ : Gam} {P : Int32 → Mem → Prop}  (s : St) (a1 a2 : Int32) {g : Mem} (h : (CW 34 s g ∧ (((bi (inR (s 0) a1)) = 0 → P (-1) g) ∧ (¬ (bi (inR (s 0) a1)) = 0 → ((a2 < 0 → P (-1) g) ∧ (¬ (a2 < 0) → ((a2 < 6 → (vp_in a1 10 ∧ ((¬ (g 38 a1.toNatClampNeg) = a2 → (Runs Γ 3 yX6_saveState iX6_saveState [.inr 0] g (fun r1 g1 => (vp_in a1 10 ∧ (Runs Γ 3 yX4_startRun iX4_startRun [.inr 34] (up g1 38 a1.toNatClampNeg a2) (fun r2 g2 => P (g 38 a1.toNatClampNeg) g2)))))) ∧ ((g 38 a1.toNatClampNeg) = a2 → P (-2) g)))) ∧ (¬ (a2 < 6) → P (-1) g)))))))) : AW Γ 4 iX6_setGroup P 0 [some (.inr 0), some (.inl a1), some (.inl a2)] [] g :=
  (aw_aload_n dX6_setGroup_0 rfl (aw_getr 34 fkX6_19 fa_0_1 dX6_setGroup_1 (aw_iload_n dX6_setGroup_4 rfl (aw_callVi lkX6_86 ckX4_has (cs_ isSt_34) rfl (d := 1) (by decide) [.inl a1] rfl rfl (Nat.le_of_ble_eq_true rfl) dX6_setGroup_5 rfl (Runs.fn ((ct_X4_has isSt_34) h.1) (aw_if_eq 21 dX6_setGroup_8 (by decide) (fun c1 => (aw_iconst (-1) dX6_setGroup_21 (by decide) (aw_iret rfl (vp_nar_int _) dX6_setGroup_22 (h.2.1 c1)))) (fun c1 => (aw_iload_n dX6_setGroup_11 rfl (aw_if_lt 21 dX6_setGroup_12 (by decide) (fun c2 => (aw_iconst (-1) dX6_setGroup_21 (by decide) (aw_iret rfl (vp_nar_int _) dX6_setGroup_22 ((h.2.2 c1).1 c2)))) (fun c2 => (aw_iload_n dX6_setGroup_15 rfl (aw_bipush 6 dX6_setGroup_16 (by decide) (aw_icmp_lt 23 dX6_setGroup_18 (by decide) (fun c3 => (aw_aload_n dX6_setGroup_23 rfl (aw_getr 34 fkX6_19 fa_0_1 dX6_setGroup_24 (aw_getr 38 fkX6_99 (fs_4 isSt_34) dX6_setGroup_27 (aw_iload_n dX6_setGroup_30 rfl (aw_iald (as_4 (b := 34) isSt_34) dX6_setGroup_31 (((h.2.2 c1).2 c2).1 c3).1 (aw_istore_n [some (.inr 0), some (.inl a1), some (.inl a2), some (.inl (g 38 a1.toNatClampNeg))] dX6_setGroup_32 (by decide) rfl (aw_iload_n dX6_setGroup_33 rfl (aw_iload_n dX6_setGroup_34 rfl (aw_icmp_ne 41 dX6_setGroup_35 (by decide) (fun c4 => (aw_aload_n dX6_setGroup_41 rfl (aw_callVv lkX6_73 ckX6_saveState ca_0 rfl (d := 3) (by decide) [] rfl rfl (Nat.le_of_ble_eq_true rfl) dX6_setGroup_42 rfl (Runs.mono ((((h.2.2 c1).2 c2).1 c3).2.1 c4) (fun r1 g1 h1_ => (aw_aload_n dX6_setGroup_45 rfl (aw_getr 34 fkX6_19 fa_0_1 dX6_setGroup_46 (aw_getr 38 fkX6_99 (fs_4 isSt_34) dX6_setGroup_49 (aw_iload_n dX6_setGroup_52 rfl (aw_iload_n dX6_setGroup_53 rfl (aw_iast (as_4 (b := 34) isSt_34) dX6_setGroup_54 h1_.1 (aw_aload_n dX6_setGroup_55 rfl (aw_getr 34 fkX6_19 fa_0_1 dX6_setGroup_56 (aw_callVv lkX6_80 ckX4_startRun (cs_ isSt_34) rfl (d := 3) (by decide) [] rfl rfl (Nat.le_of_ble_eq_true rfl) dX6_setGroup_59 rfl (Runs.mono h1_.2 (fun r2 g2 h2_ => (aw_iload_n dX6_setGroup_62 rfl (aw_iret rfl (vp_nar_int _) dX6_setGroup_63 h2_)))))))))))))))))) (fun c4 => (aw_bipush (-2) dX6_setGroup_38 (by decide) (aw_iret rfl (vp_nar_int _) dX6_setGroup_40 ((((h.2.2 c1).2 c2).1 c3).2.2 c4)))))))))))))) (fun c3 => (aw_iconst (-1) dX6_setGroup_21 (by decide) (aw_iret rfl (vp_nar_int _) dX6_setGroup_22 (((h.2.2 c1).2 c2).2 c3)))))))))))))))))
theorem oc_setGroup {Γ : Gam} {a : Ab} {g : Mem} {x v : Int32} (h : CI a g) (hw : WA a) : Runs Γ 4 yX6_setGroup iX6_setGroup [.inr 0, .inl x, .inl v] g (OpC (sp_setGroup a x v) g) := by
  have e5 : inI v 0 5 = (decide (¬ v < 0) && decide (v < 6)) := inI_lt (n := 5) (by decide)
  unfold sp_setGroup
  refine Runs.intro (by decide) rfl (Nat.le_of_ble_eq_true rfl) (sg_X6_setGroup_0 a.1 x v ⟨h.s hw, fun c1 => ?_, fun c1 => ⟨fun c2 => ?_, fun c2 => ⟨fun c3 => ?_, fun c3 => ?_⟩⟩⟩)
  · rw [bi_eq0] at c1; rw [if_neg (by simp [c1])]; exact OpC.same h
  · rw [if_neg (by simp [e5, c2])]; exact OpC.same h
  · rw [bi_ne0] at c1
    have hi : inI v 0 5 = true := by rw [e5]; simp [c2, c3]
    obtain ⟨v1, v2⟩ := inI_ex (n := 5) (by decide) hi
    obtain ⟨x1, x3⟩ := inR_ex c1
    have hvp := vp_inR c1 hw.1.n (show 10 < 2 ^ 31 by decide)
    have hgi := (hw.1.o x1).2.1
    rw [if_pos (by simp [c1, hi]), h.1.2.2.2.2.1 _ x1]
    unfold sp_set
    refine ⟨hvp, fun c4 => (ct_X6_saveState h hw).mono (fun r g1 q => ⟨hvp, ?_⟩), fun c4 => ?_⟩
    · rw [if_neg (fun e => c4 (by rw [e]; exact v2.symm))]
      obtain ⟨q1, q2, q3⟩ := q
      refine start_after (P := fun _ g3 => OpC _ g _ g3) h (hw.1.grp x1 v1) ?_ (q1.ext (up_ne (by decide)) (fun k hk => up_ne (by omega))) (by rw [up_ne (by decide)]; exact q2) (fun k k1 k2 k3 => by rw [up_ne (by omega), q3 k k1 k2 (by omega)]) (fun g3 _ q => q)
      have := CS.grp (v := v.toNatClampNeg) hw.1 (h.1.ext (g' := g1) (fun k k1 k2 => q3 k (by omega) (by omega) (by omega))) x1
      rw [← v2] at this
      exact this
    · rw [if_pos (by
        rw [v2, nI_eq (by omega) (by omega)] at c4
        exact c4)]
      exact OpC.same h
  · rw [if_neg (by simp [e5, c3])]; exact OpC.same h
/-! the reference's -/
theorem MA.set {s : St} {g : Mem} {p v : Nat} (h : MA 27 s g) : MA 27 (sset s p v) (up g 27 p (nI v)) := by
  intro j hj
  by_cases e : j = p
  · subst e; rw [up_at, sset_at]
  · rw [up_nx e, sset_ne e]; exact h j hj
/-- the reference, behind a save and a change of its row: the run begun again -/
theorem mstart {Γ : Gam} {a : Ab} {s' : St} {g g1 g2 : Mem} {r : Int32} (h1 : MI (a.1, push a.2.1 a.1, a.2.2.1, a.2.2.2) g1) (hf : frM g g1) (hw' : WF s') (hs : MA 27 s' g2) (he : ∀ k, k ≠ 27 → g2 k = g1 k) {P : Int32 → Mem → Prop} (hP : ∀ g3, MA 27 (beg s') g3 → OpM (r, (beg s', push a.2.1 a.1, a.2.2.1, a.2.2.2)) g r g3 → P 0 g3) : Runs Γ 1 yX7_beginRun iX7_beginRun [.inr 26] g2 (fun _ g3 => P 0 g3) := by
  refine (ct_X7_beginRun hw' (fun j hj => hs j (by omega))).mono (fun _ g3 q => hP g3 q.2 ⟨rfl, ?_, ?_⟩)
  · exact h1.row q.2 (fun k hk => by rw [q.1 k hk, he k hk])
  · exact (hf.trans (frM_row he)).trans (frM_row q.1)
theorem sg_X7_change_0 {Γ : Gam} {P : Int32 → Mem → Prop}  (a1 a2 : Int32) {g : Mem} (h : (vp_in a1 81 ∧ ((¬ (g 27 a1.toNatClampNeg) = a2 → (Runs Γ 1 yX7_save iX7_save [.inr 26] g (fun r1 g1 => (vp_in a1 81 ∧ (Runs Γ 1 yX7_beginRun iX7_beginRun [.inr 26] (up g1 27 a1.toNatClampNeg a2) (fun r2 g2 => P (g 27 a1.toNatClampNeg) g2)))))) ∧ ((g 27 a1.toNatClampNeg) = a2 → P (-2) g)))) : AW Γ 2 iX7_change P 0 [some (.inr 26), some (.inl a1), some (.inl a2)] [] g :=
  (aw_aload_n dX7_change_0 rfl (aw_getr 27 fkX7_7 fa_26_1 dX7_change_1 (aw_iload_n dX7_change_4 rfl (aw_iald aa_27 dX7_change_5 h.1 (aw_istore_n [some (.inr 26), some (.inl a1), some (.inl a2), some (.inl (g 27 a1.toNatClampNeg))] dX7_change_6 (by decide) rfl (aw_iload_n dX7_change_7 rfl (aw_iload_n dX7_change_8 rfl (aw_icmp_ne 15 dX7_change_9 (by decide) (fun c1 => (aw_aload_n dX7_change_15 rfl (aw_callVv lkX7_99 ckX7_save ca_26 rfl (d := 1) (by decide) [] rfl rfl (Nat.le_of_ble_eq_true rfl) dX7_change_16 rfl (Runs.mono (h.2.1 c1) (fun r1 g1 h1_ => (aw_aload_n dX7_change_19 rfl (aw_getr 27 fkX7_7 fa_26_1 dX7_change_20 (aw_iload_n dX7_change_23 rfl (aw_iload_n dX7_change_24 rfl (aw_iast aa_27 dX7_change_25 h1_.1 (aw_aload_n dX7_change_26 rfl (aw_callVv lkX7_102 ckX7_beginRun ca_26 rfl (d := 1) (by decide) [] rfl rfl (Nat.le_of_ble_eq_true rfl) dX7_change_27 rfl (Runs.mono h1_.2 (fun r2 g2 h2_ => (aw_iload_n dX7_change_30 rfl (aw_iret rfl (vp_nar_int _) dX7_change_31 h2_)))))))))))))))) (fun c1 => (aw_bipush (-2) dX7_change_12 (by decide) (aw_iret rfl (vp_nar_int _) dX7_change_14 (h.2.2 c1))))))))))))
theorem om_change {Γ : Gam} {a : Ab} {g g0 : Mem} {p w : Nat} (h : MI a g) (hf : frM g0 g) (hp : p < 71) (hs : a.1 p < 2 ^ 31) (hv : w < 2 ^ 31) (hw' : WF (sset a.1 p w)) : Runs Γ 2 yX7_change iX7_change [.inr 26, .inl (nI p), .inl (nI w)] g (OpM (sp_set a p w) g0) := by
  unfold sp_set
  refine Runs.intro (by decide) rfl (Nat.le_of_ble_eq_true rfl) (sg_X7_change_0 _ _ ?_)
  rw [ix_nI (by omega), h.1 p (by omega), nI_eq hs hv]
  refine ⟨vp_nI (by omega) (by decide), fun c1 => (ct_X7_save' h).mono (fun r g1 q => ⟨vp_nI (by omega) (by decide), ?_⟩), fun c1 => ?_⟩
  · rw [if_neg c1]
    exact mstart (P := fun _ g3 => OpM _ g0 _ g3) q.1 (hf.trans q.2) hw' (MA.set q.1.1) (fun k hk => up_ne hk) (fun g3 _ q => q)
  · rw [if_pos c1]; exact ⟨rfl, h, hf⟩
theorem sg_X7_setBehaviour_0 {Γ : Gam} {P : Int32 → Mem → Prop}  (s : St) (a1 a2 : Int32) {g : Mem} (h : (MW 27 s (up g 26 0 0) ∧ (((bi (isK s a1 0)) = 0 → P (-1) (up g 26 0 0)) ∧ (¬ (bi (isK s a1 0)) = 0 → (((bi (inI a2 0 15)) = 0 → P (-1) (up g 26 0 0)) ∧ (¬ (bi (inI a2 0 15)) = 0 → (Runs Γ 2 yX7_change iX7_change [.inr 26, .inl (11 + a1), .inl a2] (up g 26 0 0) (fun r1 g1 => P r1 g1)))))))) : AW Γ 4 iX7_setBehaviour P 0 [some (.inr 26), some (.inl a1), some (.inl a2)] [] g :=
  (aw_aload_n dX7_setBehaviour_0 rfl (aw_iconst 0 dX7_setBehaviour_1 (by decide) (aw_putf fpX7_32 fa_26_0 (vp_nar_int _) rfl dX7_setBehaviour_2 (aw_aload_n dX7_setBehaviour_5 rfl (aw_iload_n dX7_setBehaviour_6 rfl (aw_iconst 0 dX7_setBehaviour_7 (by decide) (aw_callVi lkX7_112 ckX7_isOf ca_26 rfl (d := 3) (by decide) [.inl a1, .inl 0] rfl rfl (Nat.le_of_ble_eq_true rfl) dX7_setBehaviour_8 rfl (Runs.fn (ct_X7_isOf h.1) (aw_if_eq 36 dX7_setBehaviour_11 (by decide) (fun c1 => (aw_iconst (-1) dX7_setBehaviour_36 (by decide) (aw_iret rfl (vp_nar_int _) dX7_setBehaviour_37 (h.2.1 c1)))) (fun c1 => (aw_iload_n dX7_setBehaviour_14 rfl (aw_iconst 0 dX7_setBehaviour_15 (by decide) (aw_bipush 15 dX7_setBehaviour_16 (by decide) (aw_callSi lkX7_56 ckX7_in (d := 1) (by decide) [.inl a2, .inl 0, .inl 15] rfl rfl (Nat.le_of_ble_eq_true rfl) dX7_setBehaviour_18 rfl (Runs.fn ct_X7_in (aw_if_eq 36 dX7_setBehaviour_21 (by decide) (fun c2 => (aw_iconst (-1) dX7_setBehaviour_36 (by decide) (aw_iret rfl (vp_nar_int _) dX7_setBehaviour_37 ((h.2.2 c1).1 c2)))) (fun c2 => (aw_aload_n dX7_setBehaviour_24 rfl (aw_bipush 11 dX7_setBehaviour_25 (by decide) (aw_iload_n dX7_setBehaviour_27 rfl (aw_iadd dX7_setBehaviour_28 (aw_iload_n dX7_setBehaviour_29 rfl (aw_callVi lkX7_115 ckX7_change ca_26 rfl (d := 2) (by decide) [.inl (11 + a1), .inl a2] rfl rfl (Nat.le_of_ble_eq_true rfl) dX7_setBehaviour_30 rfl (Runs.mono ((h.2.2 c1).2 c2) (fun r1 g1 h1_ => (aw_goto 37 dX7_setBehaviour_33 (by decide) (aw_iret rfl (vp_nar_int _) dX7_setBehaviour_37 h1_)))))))))))))))))))))))))))
theorem om_setBehaviour {Γ : Gam} {a : Ab} {g : Mem} {x v : Int32} (h : MI a g) (hw : WA a) : Runs Γ 4 yX7_setBehaviour iX7_setBehaviour [.inr 26, .inl x, .inl v] g (OpM (sp_setBehaviour a x v) g) := by
  unfold sp_setBehaviour
  refine Runs.intro (by decide) rfl (Nat.le_of_ble_eq_true rfl) (sg_X7_setBehaviour_0 a.1 x v ⟨h.thr.s hw, fun c1 => ?_, fun c1 => ⟨fun c2 => ?_, fun c2 => ?_⟩⟩)
  · rw [bi_eq0] at c1; rw [if_neg (by simp [c1])]; exact OpM.same h
  · rw [bi_eq0] at c2; rw [if_neg (by simp [c2])]; exact OpM.same h
  · rw [bi_ne0] at c1 c2
    obtain ⟨v1, v2⟩ := inI_ex (n := 15) (by decide) c2
    obtain ⟨x1, x2⟩ := isK_kd hw.1 (k := 0) (by decide) c1
    have x3 := (inR_ex (isK_in c1).1).2
    have hfi := hw.1.fi x1
    have hn := hw.1.n
    rw [if_pos (by simp [c1, c2])]
    have e : 11 + x = nI (11 + x.toNatClampNeg) := by
      conv => lhs; rw [x3]
      exact n11 _
    rw [e]
    conv => arg 5; rw [v2]
    exact om_change h.thr (frM_thr g) (by omega) (by omega) (by omega) (hw.1.beh x1 x2 v1)
theorem sg_X7_setGroup_0 {Γ : Gam} {P : Int32 → Mem → Prop}  (s : St) (a1 a2 : Int32) {g : Mem} (h : (MW 27 s (up g 26 0 0) ∧ (((bi (inR (s 0) a1)) = 0 → P (-1) (up g 26 0 0)) ∧ (¬ (bi (inR (s 0) a1)) = 0 → (((bi (inI a2 0 5)) = 0 → P (-1) (up g 26 0 0)) ∧ (¬ (bi (inI a2 0 5)) = 0 → (Runs Γ 2 yX7_change iX7_change [.inr 26, .inl (31 + a1), .inl a2] (up g 26 0 0) (fun r1 g1 => P r1 g1)))))))) : AW Γ 3 iX7_setGroup P 0 [some (.inr 26), some (.inl a1), some (.inl a2)] [] g :=
  (aw_aload_n dX7_setGroup_0 rfl (aw_iconst 0 dX7_setGroup_1 (by decide) (aw_putf fpX7_32 fa_26_0 (vp_nar_int _) rfl dX7_setGroup_2 (aw_aload_n dX7_setGroup_5 rfl (aw_iload_n dX7_setGroup_6 rfl (aw_callVi lkX7_108 ckX7_isObject ca_26 rfl (d := 2) (by decide) [.inl a1] rfl rfl (Nat.le_of_ble_eq_true rfl) dX7_setGroup_7 rfl (Runs.fn (ct_X7_isObject h.1) (aw_if_eq 34 dX7_setGroup_10 (by decide) (fun c1 => (aw_iconst (-1) dX7_setGroup_34 (by decide) (aw_iret rfl (vp_nar_int _) dX7_setGroup_35 (h.2.1 c1)))) (fun c1 => (aw_iload_n dX7_setGroup_13 rfl (aw_iconst 0 dX7_setGroup_14 (by decide) (aw_iconst 5 dX7_setGroup_15 (by decide) (aw_callSi lkX7_56 ckX7_in (d := 1) (by decide) [.inl a2, .inl 0, .inl 5] rfl rfl (Nat.le_of_ble_eq_true rfl) dX7_setGroup_16 rfl (Runs.fn ct_X7_in (aw_if_eq 34 dX7_setGroup_19 (by decide) (fun c2 => (aw_iconst (-1) dX7_setGroup_34 (by decide) (aw_iret rfl (vp_nar_int _) dX7_setGroup_35 ((h.2.2 c1).1 c2)))) (fun c2 => (aw_aload_n dX7_setGroup_22 rfl (aw_bipush 31 dX7_setGroup_23 (by decide) (aw_iload_n dX7_setGroup_25 rfl (aw_iadd dX7_setGroup_26 (aw_iload_n dX7_setGroup_27 rfl (aw_callVi lkX7_115 ckX7_change ca_26 rfl (d := 2) (by decide) [.inl (31 + a1), .inl a2] rfl rfl (Nat.le_of_ble_eq_true rfl) dX7_setGroup_28 rfl (Runs.mono ((h.2.2 c1).2 c2) (fun r1 g1 h1_ => (aw_goto 35 dX7_setGroup_31 (by decide) (aw_iret rfl (vp_nar_int _) dX7_setGroup_35 h1_))))))))))))))))))))))))))
theorem om_setGroup {Γ : Gam} {a : Ab} {g : Mem} {x v : Int32} (h : MI a g) (hw : WA a) : Runs Γ 3 yX7_setGroup iX7_setGroup [.inr 26, .inl x, .inl v] g (OpM (sp_setGroup a x v) g) := by
  unfold sp_setGroup
  refine Runs.intro (by decide) rfl (Nat.le_of_ble_eq_true rfl) (sg_X7_setGroup_0 a.1 x v ⟨h.thr.s hw, fun c1 => ?_, fun c1 => ⟨fun c2 => ?_, fun c2 => ?_⟩⟩)
  · rw [bi_eq0] at c1; rw [if_neg (by simp [c1])]; exact OpM.same h
  · rw [bi_eq0] at c2; rw [if_neg (by simp [c2])]; exact OpM.same h
  · rw [bi_ne0] at c1 c2
    obtain ⟨v1, v2⟩ := inI_ex (n := 5) (by decide) c2
    obtain ⟨x1, x3⟩ := inR_ex c1
    have hgi := (hw.1.o x1).2.1
    have hn := hw.1.n
    rw [if_pos (by simp [c1, c2])]
    have e : 31 + x = nI (31 + x.toNatClampNeg) := by
      conv => lhs; rw [x3]
      exact n31 _
    rw [e]
    conv => arg 5; rw [v2]
    exact om_change h.thr (frM_thr g) (by omega) (by omega) (by omega) (hw.1.grp x1 v1)
theorem wa_set {a : Ab} {p w : Nat} (hw : WA a) (hw' : WF (sset a.1 p w)) : WA (sp_set a p w).2 := by
  unfold sp_set
  split
  · exact hw
  · exact hw.psh hw'.beg
theorem wa_setBehaviour {a : Ab} {x v : Int32} (hw : WA a) : WA (sp_setBehaviour a x v).2 := by
  unfold sp_setBehaviour
  split
  · rename_i c
    rw [Bool.and_eq_true] at c
    obtain ⟨x1, x2⟩ := isK_kd hw.1 (k := 0) (by decide) c.1
    exact wa_set hw (hw.1.beh x1 x2 (inI_ex (n := 15) (by decide) c.2).1)
  · exact hw
theorem wa_setGroup {a : Ab} {x v : Int32} (hw : WA a) : WA (sp_setGroup a x v).2 := by
  unfold sp_setGroup
  split
  · rename_i c
    rw [Bool.and_eq_true] at c
    exact wa_set hw (hw.1.grp (inR_ex c.1).1 (inI_ex (n := 5) (by decide) c.2).1)
  · exact hw
