/-! give, take, and the calls like them. -/
def dif (m r : Nat) : Nat := m &&& (r ^^^ 1023)
theorem t1023 : ∀ i, i < 10 → (1023 : Nat).testBit i = true := by decide
theorem dif_bit {m r : Nat} (hm : m < 1024) (i : Nat) : (dif m r).testBit i = (m.testBit i && !(r.testBit i)) := by
  unfold dif
  rw [Nat.testBit_and, Nat.testBit_xor]
  rcases Nat.lt_or_ge i 10 with h | h
  · rw [t1023 i h]; cases r.testBit i <;> simp
  · have : m.testBit i = false := Nat.testBit_lt_two_pow (Nat.lt_of_lt_of_le hm (Nat.pow_le_pow_right (n := 2) (by decide) h))
    rw [this]; simp
theorem dif_lt {m r : Nat} (hm : m < 1024) : dif m r < 1024 := and_lt hm
theorem or_dif {m r : Nat} (hm : m < 1024) : r ||| dif m r = r ||| m := by
  apply Nat.eq_of_testBit_eq
  intro i
  rw [Nat.testBit_or, Nat.testBit_or, dif_bit hm]
  cases r.testBit i <;> cases m.testBit i <;> rfl
theorem nI_bit {a i : Nat} (hi : i < 32) : (nI a).toBitVec.getLsbD i = a.testBit i := by
  show (BitVec.ofNat 32 a).getLsbD i = _
  rw [BitVec.getLsbD_ofNat, decide_eq_true hi]
  rfl
theorem m1_bit {i : Nat} (hi : i < 32) : (-1 : Int32).toBitVec.getLsbD i = true := by
  have h : ∀ i, i < 32 → (-1 : Int32).toBitVec.getLsbD i = true := by decide +kernel
  exact h i hi
theorem andn_nI {m r : Nat} (hm : m < 1024) : nI m &&& (nI r ^^^ (-1)) = nI (dif m r) := by
  apply Int32.toBitVec_inj.mp
  show (nI m).toBitVec &&& ((nI r).toBitVec ^^^ (-1 : Int32).toBitVec) = (nI (dif m r)).toBitVec
  apply BitVec.eq_of_getLsbD_eq
  intro i hi
  rw [BitVec.getLsbD_and, BitVec.getLsbD_xor, nI_bit hi, nI_bit hi, nI_bit hi, m1_bit hi, dif_bit hm]
  cases r.testBit i <;> simp
theorem pop_0 : pop 0 10 = 0 := by decide
theorem pop_2 : ∀ z, z < 10 → pop (2 ^ z) 10 = 1 := by decide
theorem dif_one {r z : Nat} (hz : z < 10) : dif (2 ^ z) r = if r.testBit z then 0 else 2 ^ z := by
  apply Nat.eq_of_testBit_eq
  intro i
  rw [dif_bit (bit_lt hz), Nat.testBit_two_pow]
  by_cases hi : z = i
  · subst hi
    cases h : r.testBit z
    · simp
    · simp
  · cases h : r.testBit z
    · simp [hi]
    · simp [hi]
theorem pop_dif {r z : Nat} (hz : z < 10) : pop (dif (2 ^ z) r) 10 = if r.testBit z then 0 else 1 := by
  rw [dif_one hz]
  split
  · exact pop_0
  · exact pop_2 z hz
theorem WF.run {s : St} (hw : WF s) {i v : Nat} (hi : i < 10) (hv : v < 1024) : WF (sset s (71 + i) v) := by
  have hn := hw.n
  have hr := hw.nr
  have hq := hw.nq
  refine ⟨by rw [sset_ne (by omega)]; exact hn, fun j hj => ?_, by rw [sset_ne (by omega)]; exact hr, fun k hk => ?_, by rw [sset_ne (by omega)]; exact hq, fun k hk => ?_, fun j hj => ?_⟩
  · rw [sset_ne (by omega)] at hj
    have ho := hw.o hj
    unfold OkO at ho ⊢
    rw [sset_ne (show 0 ≠ 71 + i by omega), sset_ne (show 1 + j ≠ 71 + i by omega), sset_ne (show 11 + j ≠ 71 + i by omega), sset_ne (show 21 + j ≠ 71 + i by omega), sset_ne (show 31 + j ≠ 71 + i by omega)]
    refine ⟨ho.1, ho.2.1, ho.2.2.1, ho.2.2.2.1, ho.2.2.2.2.1, fun e => ⟨(ho.2.2.2.2.2 e).1, ?_⟩⟩
    have := (ho.2.2.2.2.2 e).1
    rw [sset_ne (by omega)]
    exact (ho.2.2.2.2.2 e).2
  · rw [sset_ne (by omega)] at hk
    have h1 := hw.rf hk
    rw [sset_ne (show 0 ≠ 71 + i by omega), sset_ne (show 42 + 2 * k ≠ 71 + i by omega), sset_ne (show 42 + 2 * k + 1 ≠ 71 + i by omega), sset_ne (by omega)]
    exact h1
  · rw [sset_ne (by omega)] at hk
    have h1 := hw.rq hk
    rw [sset_ne (show 0 ≠ 71 + i by omega), sset_ne (show 63 + 2 * k ≠ 71 + i by omega), sset_ne (show 63 + 2 * k + 1 ≠ 71 + i by omega)]
    exact h1
  · by_cases e : j = i
    · subst e; rw [sset_at]; exact hv
    · rw [sset_ne (by omega)]; exact hw.rn hj
theorem CS.run {s : St} {g : Mem} (hw : WF s) (h : CS 34 s g) {i v : Nat} (hi : i < 10) : CS 34 (sset s (71 + i) v) (up g 43 i (nI v)) := by
  have hn := hw.n
  have hr := hw.nr
  have hq := hw.nq
  obtain ⟨c1, c2, c3, c4, c5, c6, c7, c8, c9, c10⟩ := h
  unfold CS
  rw [up_ne (show 34 ≠ 43 by decide), up_ne (show 34 + 1 ≠ 43 by decide), up_ne (show 34 + 2 ≠ 43 by decide), up_ne (show 34 + 3 ≠ 43 by decide), up_ne (show 34 + 4 ≠ 43 by decide), up_ne (show 34 + 5 ≠ 43 by decide), up_ne (show 34 + 6 ≠ 43 by decide), up_ne (show 34 + 7 ≠ 43 by decide), up_ne (show 34 + 8 ≠ 43 by decide), sset_ne (show 0 ≠ 71 + i by omega), sset_ne (show 41 ≠ 71 + i by omega), sset_ne (show 62 ≠ 71 + i by omega)]
  refine ⟨c1, fun j hj => ?_, fun j hj hk2 => ?_, fun j hj => ?_, fun j hj => ?_, c6, fun j hj => ?_, c8, fun j hj => ?_, fun j hj => ?_⟩
  · rw [sset_ne (by omega)]; exact c2 j hj
  · rw [sset_ne (by omega)] at hk2 ⊢; exact c3 j hj hk2
  · rw [sset_ne (by omega), sset_ne (by omega), sset_ne (by omega)]; exact c4 j hj
  · rw [sset_ne (by omega)]; exact c5 j hj
  · rw [sset_ne (by omega), sset_ne (by omega)]; exact c7 j hj
  · rw [sset_ne (by omega), sset_ne (by omega)]; exact c9 j hj
  · show up g 43 i (nI v) 43 j = _
    by_cases e : j = i
    · subst e; rw [sset_at]; exact up_at _ _ _ _
    · rw [sset_ne (by omega), up_nx e]; exact c10 j hj
theorem sg_X4_addToRun_0 {Γ : Gam} {P : Int32 → Mem → Prop} (b : Nat) (hb : isSt b) (a1 a2 : Int32) {g : Mem} (h : (vp_in a1 10 ∧ (vp_in a1 10 ∧ (vp_in a1 10 ∧ P (bcI (a2 &&& ((g (b + 9) a1.toNatClampNeg) ^^^ (-1)))) (up g (b + 9) a1.toNatClampNeg ((g (b + 9) a1.toNatClampNeg) ||| (a2 &&& ((g (b + 9) a1.toNatClampNeg) ^^^ (-1))))))))) : AW Γ 2 iX4_addToRun P 0 [some (.inr b), some (.inl a1), some (.inl a2)] [] g :=
  (aw_iload_n dX4_addToRun_0 rfl (aw_aload_n dX4_addToRun_1 rfl (aw_getr (b + 9) fkX4_46 (fs_11 hb) dX4_addToRun_2 (aw_iload_n dX4_addToRun_5 rfl (aw_iald (as_9 hb) dX4_addToRun_6 h.1 (aw_iconst (-1) dX4_addToRun_7 (by decide) (aw_ixor dX4_addToRun_8 (aw_iand dX4_addToRun_9 (aw_istore_n [some (.inr b), some (.inl a1), some (.inl a2), some (.inl (a2 &&& ((g (b + 9) a1.toNatClampNeg) ^^^ (-1))))] dX4_addToRun_10 (by decide) rfl (aw_aload_n dX4_addToRun_11 rfl (aw_getr (b + 9) fkX4_46 (fs_11 hb) dX4_addToRun_12 (aw_iload_n dX4_addToRun_15 rfl (aw_dup2 dX4_addToRun_16 (aw_iald (as_9 hb) dX4_addToRun_17 h.2.1 (aw_iload_n dX4_addToRun_18 rfl (aw_ior dX4_addToRun_19 (aw_iast (as_9 hb) dX4_addToRun_20 h.2.2.1 (aw_iload_n dX4_addToRun_21 rfl (aw_callSi lkX4_82 ckJ6_bitCount_0f7a4 (d := 1) (by decide) [.inl (a2 &&& ((g (b + 9) a1.toNatClampNeg) ^^^ (-1)))] rfl rfl (Nat.le_of_ble_eq_true rfl) dX4_addToRun_22 rfl (Runs.fn ct_J6_bitCount (aw_iret rfl (vp_nar_int _) dX4_addToRun_25 h.2.2.2)))))))))))))))))))))
theorem ct_X4_addToRun {Γ : Gam} {s : St} {g : Mem} {y m : Nat} (hc : CW 34 s g) (hy : y < 10) (hm : m < 1024) : Runs Γ 2 yX4_addToRun iX4_addToRun [.inr 34, .inl (nI y), .inl (nI m)] g (fun r g' => r = nI (pop (dif m (s (71 + y))) 10) ∧ g' = up g 43 y (nI (s (71 + y) ||| m))) := by
  have hr := hc.2.rn hy
  refine Runs.intro (by decide) rfl (Nat.le_of_ble_eq_true rfl) (sg_X4_addToRun_0 34 isSt_34 _ _ ?_)
  rw [ix_nI (by omega), hc.1.2.2.2.2.2.2.2.2.2 y hy, andn_nI hm, bcI_nI _ (dif_lt hm), fa_or', or_dif hm]
  exact ⟨vp_nI hy (by decide), vp_nI hy (by decide), vp_nI hy (by decide), rfl, rfl⟩
/-- y comes to hold z in the run -/
def sp_hold (a : Ab) (y z : Nat) : Int32 × Ab := (if (a.1 (71 + y)).testBit z then 0 else 1, (sset a.1 (71 + y) (a.1 (71 + y) ||| 2 ^ z), push a.2.1 a.1, a.2.2.1, a.2.2.2))
theorem wa_hold {a : Ab} {y z : Nat} (hw : WA a) (hy : y < 10) (hz : z < 10) : WA (sp_hold a y z).2 := hw.psh (hw.1.run hy (or_lt (hw.1.rn hy) (bit_lt hz)))
theorem nI_if {c : Prop} [Decidable c] : nI (if c then 0 else 1) = if c then 0 else 1 := by split <;> rfl
/-- the class: behind a save, y comes to hold z -/
theorem oc_hold {Γ : Gam} {a : Ab} {g g1 : Mem} {y z : Nat} (h : CI a g) (hw : WA a) (hy : y < 10) (hz : z < 10) (q : HC (push a.2.1 a.1) g1 ∧ g1 0 8 = 0 ∧ ∀ k, k ≠ 0 → k ≠ 4 → k < 54 → g1 k = g k) : Runs Γ 2 yX4_addToRun iX4_addToRun [.inr 34, .inl (nI y), .inl (1 <<< (nI z &&& 31))] g1 (OpC (sp_hold a y z) g) := by
  obtain ⟨q1, q2, q3⟩ := q
  have hc1 : CS 34 a.1 g1 := h.1.ext (fun k k1 k2 => q3 k (by omega) (by omega) (by omega))
  rw [bit_nI (by omega)]
  refine Runs.fn (ct_X4_addToRun ⟨hc1, hw.1⟩ hy (bit_lt hz)) ?_
  rw [pop_dif hz, nI_if]
  exact h.kept q1 q2 q3 (CS.run hw.1 hc1 hy) (fun k hk => up_ne (by omega))
theorem sg_X7_saveAndHold_0 {Γ : Gam} {P : Int32 → Mem → Prop}  (s : St) (a1 a2 : Int32) {g : Mem} (h : ((MW 27 s g ∧ inR 10 a1 = true) ∧ (((bi (hasB (nI (s (71 + a1.toNatClampNeg))) a2)) = 0 → AW Γ 3 iX7_saveAndHold P 14 [some (.inr 26), some (.inl a1), some (.inl a2)] [.inl 1] g) ∧ (¬ (bi (hasB (nI (s (71 + a1.toNatClampNeg))) a2)) = 0 → AW Γ 3 iX7_saveAndHold P 14 [some (.inr 26), some (.inl a1), some (.inl a2)] [.inl 0] g)))) : AW Γ 3 iX7_saveAndHold P 0 [some (.inr 26), some (.inl a1), some (.inl a2)] [] g :=
  (aw_aload_n dX7_saveAndHold_0 rfl (aw_iload_n dX7_saveAndHold_1 rfl (aw_iload_n dX7_saveAndHold_2 rfl (aw_callVi lkX7_197 ckX7_holds ca_26 rfl (d := 2) (by decide) [.inl a1, .inl a2] rfl rfl (Nat.le_of_ble_eq_true rfl) dX7_saveAndHold_3 rfl (Runs.fn (ct_X7_holds h.1) (aw_if_eq 13 dX7_saveAndHold_6 (by decide) (fun c1 => (aw_iconst 1 dX7_saveAndHold_13 (by decide) (aw_mask [true, true, true] rfl (h.2.1 c1)))) (fun c1 => (aw_iconst 0 dX7_saveAndHold_9 (by decide) (aw_goto 14 dX7_saveAndHold_10 (by decide) (aw_mask [true, true, true] rfl (h.2.2 c1)))))))))))
theorem sg_X7_saveAndHold_14 {Γ : Gam} {P : Int32 → Mem → Prop}  (a1 a2 v0 : Int32) {g : Mem} (h : (Runs Γ 1 yX7_save iX7_save [.inr 26] g (fun r1 g1 => (vp_in (71 + a1) 81 ∧ (vp_in (71 + a1) 81 ∧ P v0 (up g1 27 (71 + a1).toNatClampNeg ((g1 27 (71 + a1).toNatClampNeg) ||| (1 <<< (a2 &&& 31))))))))) : AW Γ 3 iX7_saveAndHold P 14 [some (.inr 26), some (.inl a1), some (.inl a2)] [.inl v0] g :=
  (aw_istore_n [some (.inr 26), some (.inl a1), some (.inl a2), some (.inl v0)] dX7_saveAndHold_14 (by decide) rfl (aw_aload_n dX7_saveAndHold_15 rfl (aw_callVv lkX7_99 ckX7_save ca_26 rfl (d := 1) (by decide) [] rfl rfl (Nat.le_of_ble_eq_true rfl) dX7_saveAndHold_16 rfl (Runs.mono h (fun r1 g1 h1_ => (aw_aload_n dX7_saveAndHold_19 rfl (aw_getr 27 fkX7_7 fa_26_1 dX7_saveAndHold_20 (aw_bipush 71 dX7_saveAndHold_23 (by decide) (aw_iload_n dX7_saveAndHold_25 rfl (aw_iadd dX7_saveAndHold_26 (aw_dup2 dX7_saveAndHold_27 (aw_iald aa_27 dX7_saveAndHold_28 h1_.1 (aw_iconst 1 dX7_saveAndHold_29 (by decide) (aw_iload_n dX7_saveAndHold_30 rfl (aw_ishl dX7_saveAndHold_31 (aw_ior dX7_saveAndHold_32 (aw_iast aa_27 dX7_saveAndHold_33 h1_.2.1 (aw_iload_n dX7_saveAndHold_34 rfl (aw_iret rfl (vp_nar_int _) dX7_saveAndHold_35 h1_.2.2)))))))))))))))))))
theorem om_hold {Γ : Gam} {a : Ab} {g g0 : Mem} {y z : Nat} (h : MI a g) (hf : frM g0 g) (hw : WA a) (hy : y < 10) (hz : z < 10) : Runs Γ 3 yX7_saveAndHold iX7_saveAndHold [.inr 26, .inl (nI y), .inl (nI z)] g (OpM (sp_hold a y z) g0) := by
  have hr := hw.1.rn hy
  have key : ∀ v : Int32, v = (if (a.1 (71 + y)).testBit z then 0 else 1) → AW Γ 3 iX7_saveAndHold (OpM (sp_hold a y z) g0) 14 [some (.inr 26), some (.inl (nI y)), some (.inl (nI z))] [.inl v] g := by
    intro v hv
    refine sg_X7_saveAndHold_14 _ _ v ((ct_X7_save' h).mono (fun r g1 q => ?_))
    have hm : MA 27 a.1 g1 := q.1.1
    rw [n71, ix_nI (by omega), hm _ (by omega), bit_nI (by omega), fa_or']
    exact ⟨vp_nI (by omega) (by decide), vp_nI (by omega) (by decide), hv, q.1.row (MA.set hm) (fun k hk => up_ne hk), (hf.trans q.2).trans (frM_row (fun k hk => up_ne hk))⟩
  refine Runs.intro (by decide) rfl (Nat.le_of_ble_eq_true rfl) (sg_X7_saveAndHold_0 a.1 _ _ ⟨⟨h.s hw, by rw [inR_nI (by omega)]; simpa using hy⟩, ?_⟩)
  rw [ix_nI (by omega), hasB_nI (by omega) (by omega)]
  refine ⟨fun c => key 1 ?_, fun c => key 0 ?_⟩
  · rw [bi_eq0] at c; rw [if_neg (by simp [c])]
  · rw [bi_ne0] at c; rw [if_pos c]
theorem isW_in {s : St} {x f : Int32} (h : isW s x f = true) : isK s x 0 = true := by
  simp only [isW, Bool.and_eq_true] at h
  exact h.1
theorem isW_r {s : St} {x f : Int32} (h : isW s x f = true) : inR (s 0) x = true := (isK_in (isW_in h)).1
def sp_give (a : Ab) (x y z : Int32) : Int32 × Ab := if isW a.1 x 1 && (isW a.1 y 4 && inR (a.1 0) z) then (if hasB (nI (a.1 (71 + x.toNatClampNeg))) y && (decide (z = x) || hasB (nI (a.1 (71 + x.toNatClampNeg))) z) then sp_hold a y.toNatClampNeg z.toNatClampNeg else (-2, a)) else (-1, a)
theorem sg_X6_give_0 {Γ : Gam} {P : Int32 → Mem → Prop}  (s : St) (a1 a2 a3 : Int32) {g : Mem} (h : (CW 34 s g ∧ (((bi (isW s a1 1)) = 0 → P (-1) g) ∧ (¬ (bi (isW s a1 1)) = 0 → (CW 34 s g ∧ (((bi (isW s a2 4)) = 0 → P (-1) g) ∧ (¬ (bi (isW s a2 4)) = 0 → (CW 34 s g ∧ ((¬ (bi (inR (s 0) a3)) = 0 → ((CW 34 s g ∧ inR 10 a1 = true) ∧ (((bi (hasB (nI (s (71 + a1.toNatClampNeg))) a2)) = 0 → P (-2) g) ∧ (¬ (bi (hasB (nI (s (71 + a1.toNatClampNeg))) a2)) = 0 → ((a3 = a1 → AW Γ 4 iX6_give P 69 [some (.inr 0), none, some (.inl a2), some (.inl a3)] [] g) ∧ (¬ a3 = a1 → ((CW 34 s g ∧ inR 10 a1 = true) ∧ ((¬ (bi (hasB (nI (s (71 + a1.toNatClampNeg))) a3)) = 0 → AW Γ 4 iX6_give P 69 [some (.inr 0), none, some (.inl a2), some (.inl a3)] [] g) ∧ ((bi (hasB (nI (s (71 + a1.toNatClampNeg))) a3)) = 0 → P (-2) g))))))))) ∧ ((bi (inR (s 0) a3)) = 0 → P (-1) g)))))))))) : AW Γ 4 iX6_give P 0 [some (.inr 0), some (.inl a1), some (.inl a2), some (.inl a3)] [] g :=
  (aw_aload_n dX6_give_0 rfl (aw_getr 34 fkX6_19 fa_0_1 dX6_give_1 (aw_iload_n dX6_give_4 rfl (aw_iconst 1 dX6_give_5 (by decide) (aw_callVi lkX6_180 ckX4_isAgentWith (cs_ isSt_34) rfl (d := 3) (by decide) [.inl a1, .inl 1] rfl rfl (Nat.le_of_ble_eq_true rfl) dX6_give_6 rfl (Runs.fn ((ct_X4_isAgentWith isSt_34) h.1) (aw_if_eq 35 dX6_give_9 (by decide) (fun c1 => (aw_iconst (-1) dX6_give_35 (by decide) (aw_iret rfl (vp_nar_int _) dX6_give_36 (h.2.1 c1)))) (fun c1 => (aw_aload_n dX6_give_12 rfl (aw_getr 34 fkX6_19 fa_0_1 dX6_give_13 (aw_iload_n dX6_give_16 rfl (aw_iconst 4 dX6_give_17 (by decide) (aw_callVi lkX6_180 ckX4_isAgentWith (cs_ isSt_34) rfl (d := 3) (by decide) [.inl a2, .inl 4] rfl rfl (Nat.le_of_ble_eq_true rfl) dX6_give_18 rfl (Runs.fn ((ct_X4_isAgentWith isSt_34) (h.2.2 c1).1) (aw_if_eq 35 dX6_give_21 (by decide) (fun c2 => (aw_iconst (-1) dX6_give_35 (by decide) (aw_iret rfl (vp_nar_int _) dX6_give_36 ((h.2.2 c1).2.1 c2)))) (fun c2 => (aw_aload_n dX6_give_24 rfl (aw_getr 34 fkX6_19 fa_0_1 dX6_give_25 (aw_iload_n dX6_give_28 rfl (aw_callVi lkX6_86 ckX4_has (cs_ isSt_34) rfl (d := 1) (by decide) [.inl a3] rfl rfl (Nat.le_of_ble_eq_true rfl) dX6_give_29 rfl (Runs.fn ((ct_X4_has isSt_34) ((h.2.2 c1).2.2 c2).1) (aw_if_ne 37 dX6_give_32 (by decide) (fun c3 => (aw_aload_n dX6_give_37 rfl (aw_getr 34 fkX6_19 fa_0_1 dX6_give_38 (aw_iload_n dX6_give_41 rfl (aw_iload_n dX6_give_42 rfl (aw_callVi lkX6_183 ckX4_runHolds (cs_ isSt_34) rfl (d := 2) (by decide) [.inl a1, .inl a2] rfl rfl (Nat.le_of_ble_eq_true rfl) dX6_give_43 rfl (Runs.fn ((ct_X4_runHolds isSt_34) (((h.2.2 c1).2.2 c2).2.1 c3).1) (aw_if_eq 66 dX6_give_46 (by decide) (fun c4 => (aw_bipush (-2) dX6_give_66 (by decide) (aw_iret rfl (vp_nar_int _) dX6_give_68 ((((h.2.2 c1).2.2 c2).2.1 c3).2.1 c4)))) (fun c4 => (aw_iload_n dX6_give_49 rfl (aw_iload_n dX6_give_50 rfl (aw_icmp_eq 69 dX6_give_51 (by decide) (fun c5 => (aw_mask [true, false, true, true] rfl (((((h.2.2 c1).2.2 c2).2.1 c3).2.2 c4).1 c5))) (fun c5 => (aw_aload_n dX6_give_54 rfl (aw_getr 34 fkX6_19 fa_0_1 dX6_give_55 (aw_iload_n dX6_give_58 rfl (aw_iload_n dX6_give_59 rfl (aw_callVi lkX6_183 ckX4_runHolds (cs_ isSt_34) rfl (d := 2) (by decide) [.inl a1, .inl a3] rfl rfl (Nat.le_of_ble_eq_true rfl) dX6_give_60 rfl (Runs.fn ((ct_X4_runHolds isSt_34) (((((h.2.2 c1).2.2 c2).2.1 c3).2.2 c4).2 c5).1) (aw_if_ne 69 dX6_give_63 (by decide) (fun c6 => (aw_mask [true, false, true, true] rfl ((((((h.2.2 c1).2.2 c2).2.1 c3).2.2 c4).2 c5).2.1 c6))) (fun c6 => (aw_bipush (-2) dX6_give_66 (by decide) (aw_iret rfl (vp_nar_int _) dX6_give_68 ((((((h.2.2 c1).2.2 c2).2.1 c3).2.2 c4).2 c5).2.2 c6)))))))))))))))))))))))) (fun c3 => (aw_iconst (-1) dX6_give_35 (by decide) (aw_iret rfl (vp_nar_int _) dX6_give_36 (((h.2.2 c1).2.2 c2).2.2 c3))))))))))))))))))))))))))
theorem sg_X6_give_69 {Γ : Gam} {P : Int32 → Mem → Prop}  (a2 a3 : Int32) {g : Mem} (h : (Runs Γ 3 yX6_saveState iX6_saveState [.inr 0] g (fun r1 g1 => (Runs Γ 2 yX4_addToRun iX4_addToRun [.inr 34, .inl a2, .inl (1 <<< (a3 &&& 31))] g1 (fun r2 g2 => P r2 g2))))) : AW Γ 4 iX6_give P 69 [some (.inr 0), none, some (.inl a2), some (.inl a3)] [] g :=
  (aw_aload_n dX6_give_69 rfl (aw_callVv lkX6_73 ckX6_saveState ca_0 rfl (d := 3) (by decide) [] rfl rfl (Nat.le_of_ble_eq_true rfl) dX6_give_70 rfl (Runs.mono h (fun r1 g1 h1_ => (aw_aload_n dX6_give_73 rfl (aw_getr 34 fkX6_19 fa_0_1 dX6_give_74 (aw_iload_n dX6_give_77 rfl (aw_iload_n dX6_give_78 rfl (aw_callSi lkX6_186 ckX6_bit (d := 1) (by decide) [.inl a3] rfl rfl (Nat.le_of_ble_eq_true rfl) dX6_give_79 rfl (Runs.fn ct_X6_bit (aw_callVi lkX6_189 ckX4_addToRun (cs_ isSt_34) rfl (d := 2) (by decide) [.inl a2, .inl (1 <<< (a3 &&& 31))] rfl rfl (Nat.le_of_ble_eq_true rfl) dX6_give_82 rfl (Runs.mono h1_ (fun r2 g2 h2_ => (aw_iret rfl (vp_nar_int _) dX6_give_85 h2_))))))))))))))
theorem oc_give {Γ : Gam} {a : Ab} {g : Mem} {x y z : Int32} (h : CI a g) (hw : WA a) : Runs Γ 4 yX6_give iX6_give [.inr 0, .inl x, .inl y, .inl z] g (OpC (sp_give a x y z) g) := by
  have hn := hw.1.n
  unfold sp_give
  refine Runs.intro (by decide) rfl (Nat.le_of_ble_eq_true rfl) (sg_X6_give_0 a.1 x y z ⟨h.s hw, fun c1 => ?_, fun c1 => ⟨h.s hw, fun c2 => ?_, fun c2 => ⟨h.s hw, fun c3 => ?_, fun c3 => ?_⟩⟩⟩)
  · rw [bi_eq0] at c1; rw [if_neg (by simp [c1])]; exact OpC.same h
  · rw [bi_eq0] at c2; rw [if_neg (by simp [c2])]; exact OpC.same h
  · rw [bi_ne0] at c1 c2 c3
    obtain ⟨y1, y2⟩ := inR_ex (isW_r c2)
    obtain ⟨z1, z2⟩ := inR_ex c3
    rw [if_pos (by simp [c1, c2, c3])]
    have fin : (hasB (nI (a.1 (71 + x.toNatClampNeg))) y && (decide (z = x) || hasB (nI (a.1 (71 + x.toNatClampNeg))) z)) = true → AW Γ 4 iX6_give (OpC (if (hasB (nI (a.1 (71 + x.toNatClampNeg))) y && (decide (z = x) || hasB (nI (a.1 (71 + x.toNatClampNeg))) z)) = true then sp_hold a y.toNatClampNeg z.toNatClampNeg else (-2, a)) g) 69 [some (.inr 0), none, some (.inl y), some (.inl z)] [] g := by
      intro hc
      rw [if_pos hc]
      refine sg_X6_give_69 y z ((ct_X6_saveState h hw).mono (fun r g1 q => ?_))
      have := oc_hold (Γ := Γ) (y := y.toNatClampNeg) (z := z.toNatClampNeg) h hw (by omega) (by omega) q
      rw [← y2, ← z2] at this
      exact this
    refine ⟨⟨h.s hw, inR_10 hw.1 (isW_r c1)⟩, fun c4 => ?_, fun c4 => ⟨fun c5 => ?_, fun c5 => ⟨⟨h.s hw, inR_10 hw.1 (isW_r c1)⟩, fun c6 => ?_, fun c6 => ?_⟩⟩⟩
    · rw [bi_eq0] at c4; rw [if_neg (by simp [c4])]; exact OpC.same h
    · rw [bi_ne0] at c4; exact fin (by simp [c4, c5])
    · rw [bi_ne0] at c4 c6; exact fin (by simp [c4, c6])
    · rw [bi_eq0] at c6; rw [if_neg (by simp [c5, c6])]; exact OpC.same h
  · rw [bi_eq0] at c3; rw [if_neg (by simp [c3])]; exact OpC.same h
theorem sg_X7_give_0 {Γ : Gam} {P : Int32 → Mem → Prop}  (s : St) (a1 a2 a3 : Int32) {g : Mem} (h : (MW 27 s (up g 26 0 0) ∧ (((bi (isW s a1 1)) = 0 → P (-1) (up g 26 0 0)) ∧ (¬ (bi (isW s a1 1)) = 0 → (MW 27 s (up g 26 0 0) ∧ (((bi (isW s a2 4)) = 0 → P (-1) (up g 26 0 0)) ∧ (¬ (bi (isW s a2 4)) = 0 → (MW 27 s (up g 26 0 0) ∧ ((¬ (bi (inR (s 0) a3)) = 0 → ((MW 27 s (up g 26 0 0) ∧ inR 10 a1 = true) ∧ (((bi (hasB (nI (s (71 + a1.toNatClampNeg))) a2)) = 0 → P (-2) (up g 26 0 0)) ∧ (¬ (bi (hasB (nI (s (71 + a1.toNatClampNeg))) a2)) = 0 → ((a3 = a1 → (Runs Γ 3 yX7_saveAndHold iX7_saveAndHold [.inr 26, .inl a2, .inl a3] (up g 26 0 0) (fun r1 g1 => P r1 g1))) ∧ (¬ a3 = a1 → ((MW 27 s (up g 26 0 0) ∧ inR 10 a1 = true) ∧ (((bi (hasB (nI (s (71 + a1.toNatClampNeg))) a3)) = 0 → P (-2) (up g 26 0 0)) ∧ (¬ (bi (hasB (nI (s (71 + a1.toNatClampNeg))) a3)) = 0 → (Runs Γ 3 yX7_saveAndHold iX7_saveAndHold [.inr 26, .inl a2, .inl a3] (up g 26 0 0) (fun r2 g2 => P r2 g2))))))))))) ∧ ((bi (inR (s 0) a3)) = 0 → P (-1) (up g 26 0 0))))))))))) : AW Γ 5 iX7_give P 0 [some (.inr 26), some (.inl a1), some (.inl a2), some (.inl a3)] [] g :=
  (aw_aload_n dX7_give_0 rfl (aw_iconst 0 dX7_give_1 (by decide) (aw_putf fpX7_32 fa_26_0 (vp_nar_int _) rfl dX7_give_2 (aw_aload_n dX7_give_5 rfl (aw_iload_n dX7_give_6 rfl (aw_iconst 1 dX7_give_7 (by decide) (aw_callVi lkX7_119 ckX7_does ca_26 rfl (d := 4) (by decide) [.inl a1, .inl 1] rfl rfl (Nat.le_of_ble_eq_true rfl) dX7_give_8 rfl (Runs.fn (ct_X7_does h.1) (aw_if_eq 31 dX7_give_11 (by decide) (fun c1 => (aw_iconst (-1) dX7_give_31 (by decide) (aw_iret rfl (vp_nar_int _) dX7_give_32 (h.2.1 c1)))) (fun c1 => (aw_aload_n dX7_give_14 rfl (aw_iload_n dX7_give_15 rfl (aw_iconst 4 dX7_give_16 (by decide) (aw_callVi lkX7_119 ckX7_does ca_26 rfl (d := 4) (by decide) [.inl a2, .inl 4] rfl rfl (Nat.le_of_ble_eq_true rfl) dX7_give_17 rfl (Runs.fn (ct_X7_does (h.2.2 c1).1) (aw_if_eq 31 dX7_give_20 (by decide) (fun c2 => (aw_iconst (-1) dX7_give_31 (by decide) (aw_iret rfl (vp_nar_int _) dX7_give_32 ((h.2.2 c1).2.1 c2)))) (fun c2 => (aw_aload_n dX7_give_23 rfl (aw_iload_n dX7_give_24 rfl (aw_callVi lkX7_108 ckX7_isObject ca_26 rfl (d := 2) (by decide) [.inl a3] rfl rfl (Nat.le_of_ble_eq_true rfl) dX7_give_25 rfl (Runs.fn (ct_X7_isObject ((h.2.2 c1).2.2 c2).1) (aw_if_ne 33 dX7_give_28 (by decide) (fun c3 => (aw_aload_n dX7_give_33 rfl (aw_iload_n dX7_give_34 rfl (aw_iload_n dX7_give_35 rfl (aw_callVi lkX7_197 ckX7_holds ca_26 rfl (d := 2) (by decide) [.inl a1, .inl a2] rfl rfl (Nat.le_of_ble_eq_true rfl) dX7_give_36 rfl (Runs.fn (ct_X7_holds (((h.2.2 c1).2.2 c2).2.1 c3).1) (aw_if_eq 65 dX7_give_39 (by decide) (fun c4 => (aw_bipush (-2) dX7_give_65 (by decide) (aw_iret rfl (vp_nar_int _) dX7_give_67 ((((h.2.2 c1).2.2 c2).2.1 c3).2.1 c4)))) (fun c4 => (aw_iload_n dX7_give_42 rfl (aw_iload_n dX7_give_43 rfl (aw_icmp_eq 56 dX7_give_44 (by decide) (fun c5 => (aw_aload_n dX7_give_56 rfl (aw_iload_n dX7_give_57 rfl (aw_iload_n dX7_give_58 rfl (aw_callVi lkX7_200 ckX7_saveAndHold ca_26 rfl (d := 3) (by decide) [.inl a2, .inl a3] rfl rfl (Nat.le_of_ble_eq_true rfl) dX7_give_59 rfl (Runs.mono (((((h.2.2 c1).2.2 c2).2.1 c3).2.2 c4).1 c5) (fun r1 g1 h1_ => (aw_goto 67 dX7_give_62 (by decide) (aw_iret rfl (vp_nar_int _) dX7_give_67 h1_))))))))) (fun c5 => (aw_aload_n dX7_give_47 rfl (aw_iload_n dX7_give_48 rfl (aw_iload_n dX7_give_49 rfl (aw_callVi lkX7_197 ckX7_holds ca_26 rfl (d := 2) (by decide) [.inl a1, .inl a3] rfl rfl (Nat.le_of_ble_eq_true rfl) dX7_give_50 rfl (Runs.fn (ct_X7_holds (((((h.2.2 c1).2.2 c2).2.1 c3).2.2 c4).2 c5).1) (aw_if_eq 65 dX7_give_53 (by decide) (fun c6 => (aw_bipush (-2) dX7_give_65 (by decide) (aw_iret rfl (vp_nar_int _) dX7_give_67 ((((((h.2.2 c1).2.2 c2).2.1 c3).2.2 c4).2 c5).2.1 c6)))) (fun c6 => (aw_aload_n dX7_give_56 rfl (aw_iload_n dX7_give_57 rfl (aw_iload_n dX7_give_58 rfl (aw_callVi lkX7_200 ckX7_saveAndHold ca_26 rfl (d := 3) (by decide) [.inl a2, .inl a3] rfl rfl (Nat.le_of_ble_eq_true rfl) dX7_give_59 rfl (Runs.mono ((((((h.2.2 c1).2.2 c2).2.1 c3).2.2 c4).2 c5).2.2 c6) (fun r2 g2 h2_ => (aw_goto 67 dX7_give_62 (by decide) (aw_iret rfl (vp_nar_int _) dX7_give_67 h2_))))))))))))))))))))))))))) (fun c3 => (aw_iconst (-1) dX7_give_31 (by decide) (aw_iret rfl (vp_nar_int _) dX7_give_32 (((h.2.2 c1).2.2 c2).2.2 c3))))))))))))))))))))))))))
theorem om_give {Γ : Gam} {a : Ab} {g : Mem} {x y z : Int32} (h : MI a g) (hw : WA a) : Runs Γ 5 yX7_give iX7_give [.inr 26, .inl x, .inl y, .inl z] g (OpM (sp_give a x y z) g) := by
  have hn := hw.1.n
  unfold sp_give
  refine Runs.intro (by decide) rfl (Nat.le_of_ble_eq_true rfl) (sg_X7_give_0 a.1 x y z ⟨h.thr.s hw, fun c1 => ?_, fun c1 => ⟨h.thr.s hw, fun c2 => ?_, fun c2 => ⟨h.thr.s hw, fun c3 => ?_, fun c3 => ?_⟩⟩⟩)
  · rw [bi_eq0] at c1; rw [if_neg (by simp [c1])]; exact OpM.same h
  · rw [bi_eq0] at c2; rw [if_neg (by simp [c2])]; exact OpM.same h
  · rw [bi_ne0] at c1 c2 c3
    obtain ⟨y1, y2⟩ := inR_ex (isW_r c2)
    obtain ⟨z1, z2⟩ := inR_ex c3
    rw [if_pos (by simp [c1, c2, c3])]
    have fin := om_hold (Γ := Γ) (y := y.toNatClampNeg) (z := z.toNatClampNeg) h.thr (frM_thr g) hw (by omega) (by omega)
    rw [← y2, ← z2] at fin
    refine ⟨⟨h.thr.s hw, inR_10 hw.1 (isW_r c1)⟩, fun c4 => ?_, fun c4 => ⟨fun c5 => ?_, fun c5 => ⟨⟨h.thr.s hw, inR_10 hw.1 (isW_r c1)⟩, fun c6 => ?_, fun c6 => ?_⟩⟩⟩
    · rw [bi_eq0] at c4; rw [if_neg (by simp [c4])]; exact OpM.same h
    · rw [bi_ne0] at c4; rw [if_pos (by simp [c4, c5])]; exact fin
    · rw [bi_eq0] at c6; rw [if_neg (by simp [c5, c6])]; exact OpM.same h
    · rw [bi_ne0] at c4 c6; rw [if_pos (by simp [c4, c6])]; exact fin
  · rw [bi_eq0] at c3; rw [if_neg (by simp [c3])]; exact OpM.same h
theorem wa_give {a : Ab} {x y z : Int32} (hw : WA a) : WA (sp_give a x y z).2 := by
  have hn := hw.1.n
  unfold sp_give
  split
  · rename_i c
    simp only [Bool.and_eq_true] at c
    have h1 := (inR_ex (isW_r c.2.1)).1
    have h2 := (inR_ex c.2.2).1
    split
    · exact wa_hold hw (by omega) (by omega)
    · exact hw
  · exact hw
def sp_take (a : Ab) (x y z : Int32) : Int32 × Ab := if isW a.1 x 2 && (isW a.1 y 8 && inR (a.1 0) z) then (if hasB (nI (a.1 (71 + x.toNatClampNeg))) y && hasB (nI (a.1 (71 + y.toNatClampNeg))) z then sp_hold a x.toNatClampNeg z.toNatClampNeg else (-2, a)) else (-1, a)
