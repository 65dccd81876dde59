/-! The calls: what each answers and what becomes of the state; first those on the text and the plain questions. -/
def OpC (o : Int32 × Ab) (g : Mem) (r : Int32) (g' : Mem) : Prop := r = o.1 ∧ CI o.2 g' ∧ frC g g'
def OpM (o : Int32 × Ab) (g : Mem) (r : Int32) (g' : Mem) : Prop := r = o.1 ∧ MI o.2 g' ∧ frM g g'
theorem OpC.same {a : Ab} {g : Mem} {e : Int32} (h : CI a g) : OpC (e, a) g e g := ⟨rfl, h, fun _ _ _ => rfl⟩
theorem OpM.same {a : Ab} {g : Mem} {e : Int32} (h : MI a g) : OpM (e, a) g e (up g 26 0 0) := ⟨rfl, h.thr, frM_thr g⟩
theorem CI.iff {s : St} {hs : List St} {L : Nat} {c : Nat → Nat} {g : Mem} : CI (s, hs, L, c) g ↔ CS 34 s g ∧ HC hs g ∧ TC L c g ∧ AC s g := Iff.rfl
theorem MI.iff {s : St} {hs : List St} {L : Nat} {c : Nat → Nat} {g : Mem} : MI (s, hs, L, c) g ↔ MA 27 s g ∧ HM hs g ∧ TM L c g := Iff.rfl
theorem WA.iff {s : St} {hs : List St} {L : Nat} {c : Nat → Nat} : WA (s, hs, L, c) ↔ WF s ∧ (∀ t, t ∈ hs → WF t) ∧ hs.length ≤ 5 ∧ L ≤ 160 ∧ ∀ j, j < L → c j ≤ 255 := Iff.rfl
theorem inI_ex {x : Int32} {n : Nat} (hn : n < 2 ^ 31) (h : inI x 0 (nI n) = true) : x.toNatClampNeg ≤ n ∧ x = nI x.toNatClampNeg := by
  simp only [inI, Bool.and_eq_true, decide_eq_true_eq] at h
  obtain ⟨h1, h2⟩ := h
  rw [le_iff32, show (0 : Int32).toInt = 0 from rfl] at h1
  rw [le_iff32, nI_toInt hn] at h2
  have := ix_toInt x h1
  exact ⟨by omega, (nI_ix h1).symm⟩
def tset (c : Nat → Nat) (L v : Nat) : Nat → Nat := fun j => if j = L then v else c j
theorem tset_at (c : Nat → Nat) (L v : Nat) : tset c L v L = v := by simp [tset]
theorem tset_ne {c : Nat → Nat} {L v j : Nat} (h : j ≠ L) : tset c L v j = c j := by simp [tset, h]
def sp_append (a : Ab) (x : Int32) : Int32 × Ab := if inI x 0 255 then (if a.2.2.1 = 160 then (-3, a) else (nI (a.2.2.1 + 1), (a.1, a.2.1, a.2.2.1 + 1, tset a.2.2.2 a.2.2.1 x.toNatClampNeg))) else (-1, a)
theorem sg_X6_append_0 {Γ : Gam} {P : Int32 → Mem → Prop}  (a1 : Int32) {g : Mem} (h : ((a1 < 0 → P (-1) g) ∧ (¬ (a1 < 0) → ((a1 ≤ 255 → (((g 1 1) < 160 → (vp_in (g 1 1) 160 ∧ P ((g 1 1) + 1) (up (up g 2 (g 1 1).toNatClampNeg a1) 1 1 ((g 1 1) + 1)))) ∧ (¬ ((g 1 1) < 160) → P (-3) g))) ∧ (¬ (a1 ≤ 255) → P (-1) g))))) : AW Γ 1 iX6_append P 0 [some (.inr 0), some (.inl a1)] [] g :=
  (aw_iload_n dX6_append_0 rfl (aw_if_lt 11 dX6_append_1 (by decide) (fun c1 => (aw_iconst (-1) dX6_append_11 (by decide) (aw_iret rfl (vp_nar_int _) dX6_append_12 (h.1 c1)))) (fun c1 => (aw_iload_n dX6_append_4 rfl (aw_sipush 255 dX6_append_5 (by decide) (aw_icmp_le 13 dX6_append_8 (by decide) (fun c2 => (aw_aload_n dX6_append_13 rfl (aw_getr 1 fkX6_12 fa_0_0 dX6_append_14 (aw_geti fkX6_61 fa_1_1 dX6_append_17 (aw_sipush 160 dX6_append_20 (by decide) (aw_icmp_lt 29 dX6_append_23 (by decide) (fun c3 => (aw_aload_n dX6_append_29 rfl (aw_getr 1 fkX6_12 fa_0_0 dX6_append_30 (aw_getr 2 fkX6_65 fa_1_0 dX6_append_33 (aw_aload_n dX6_append_36 rfl (aw_getr 1 fkX6_12 fa_0_0 dX6_append_37 (aw_geti fkX6_61 fa_1_1 dX6_append_40 (aw_iload_n dX6_append_43 rfl (aw_iast aa_2 dX6_append_44 (((h.2 c1).1 c2).1 c3).1 (aw_aload_n dX6_append_45 rfl (aw_getr 1 fkX6_12 fa_0_0 dX6_append_46 (aw_dup dX6_append_49 (aw_geti fkX6_61 fa_1_1 dX6_append_50 (aw_iconst 1 dX6_append_53 (by decide) (aw_iadd dX6_append_54 (aw_putf fpX6_61 fa_1_1 (vp_nar_int _) rfl dX6_append_55 (aw_aload_n dX6_append_58 rfl (aw_getr 1 fkX6_12 fa_0_0 dX6_append_59 (aw_geti fkX6_61 fa_1_1 dX6_append_62 (aw_iret rfl (vp_nar_int _) dX6_append_65 (((h.2 c1).1 c2).1 c3).2)))))))))))))))))))) (fun c3 => (aw_bipush (-3) dX6_append_26 (by decide) (aw_iret rfl (vp_nar_int _) dX6_append_28 (((h.2 c1).1 c2).2 c3)))))))))) (fun c2 => (aw_iconst (-1) dX6_append_11 (by decide) (aw_iret rfl (vp_nar_int _) dX6_append_12 ((h.2 c1).2 c2))))))))))
theorem oc_append {Γ : Gam} {a : Ab} {g : Mem} {x : Int32} (h : CI a g) (hw : WA a) : Runs Γ 1 yX6_append iX6_append [.inr 0, .inl x] g (OpC (sp_append a x) g) := by
  obtain ⟨s, hs, L, c⟩ := a
  obtain ⟨h1, h2, h3, h4⟩ := CI.iff.mp h
  obtain ⟨w1, w2, w3, w4, w5⟩ := WA.iff.mp hw
  unfold sp_append
  dsimp only
  refine Runs.intro (by decide) rfl (Nat.le_of_ble_eq_true rfl) (sg_X6_append_0 x ⟨fun c1 => ?_, fun c1 => ⟨fun c2 => ?_, fun c2 => ?_⟩⟩)
  · rw [if_neg (by rw [← not_le32] at c1; simp [inI, c1])]; exact OpC.same h
  · rw [not_lt32] at c1
    have hi : inI x 0 255 = true := by simp [inI, c1, c2]
    rw [if_pos hi, h3.1, show (160 : Int32) = nI 160 from rfl, nI_ltI (by omega) (by decide), nI_1, ix_nI (by omega)]
    refine ⟨fun c3 => ⟨vp_nI c3 (by decide), ?_⟩, fun c3 => ?_⟩
    · rw [if_neg (show ¬ L = 160 by omega)]
      refine ⟨rfl, CI.iff.mpr ⟨h1.ext (fun k k1 k2 => by rw [up_ne (by omega), up_ne (by omega)]), h2.ext (by rw [up_ne (by decide), up_ne (by decide)]) (fun k hk => by rw [up_ne (by omega), up_ne (by omega)]), ⟨up_at _ _ _ _, fun j hj => ?_⟩, h4.ext (by rw [up_ne (by decide), up_ne (by decide)]) (fun k k1 k2 => by rw [up_ne (by omega), up_ne (by omega)])⟩, fun k k1 k2 => by rw [up_ne (by omega), up_ne (by omega)]⟩
      rw [up_ne (by decide)]
      by_cases hj2 : j = L
      · subst hj2
        rw [up_at, tset_at]
        exact (inI_ex (n := 255) (by decide) hi).2
      · rw [up_nx hj2, tset_ne hj2]
        exact h3.2 j (by omega)
    · rw [if_pos (show L = 160 by omega)]; exact OpC.same h
  · rw [if_neg (by simp [inI, c2])]; exact OpC.same h
theorem sg_X7_append_0 {Γ : Gam} {P : Int32 → Mem → Prop}  (a1 : Int32) {g : Mem} (h : ((¬ (bi (inI a1 0 255)) = 0 → ((¬ (g 26 6) = 160 → (vp_in (g 26 6) 160 ∧ P ((g 26 6) + 1) (up (up (up g 26 0 0) 30 (g 26 6).toNatClampNeg a1) 26 6 ((g 26 6) + 1)))) ∧ ((g 26 6) = 160 → P (-3) (up g 26 0 0)))) ∧ ((bi (inI a1 0 255)) = 0 → P (-1) (up g 26 0 0)))) : AW Γ 2 iX7_append P 0 [some (.inr 26), some (.inl a1)] [] g :=
  (aw_aload_n dX7_append_0 rfl (aw_iconst 0 dX7_append_1 (by decide) (aw_putf fpX7_32 fa_26_0 (vp_nar_int _) rfl dX7_append_2 (aw_iload_n dX7_append_5 rfl (aw_iconst 0 dX7_append_6 (by decide) (aw_sipush 255 dX7_append_7 (by decide) (aw_callSi lkX7_56 ckX7_in (d := 1) (by decide) [.inl a1, .inl 0, .inl 255] rfl rfl (Nat.le_of_ble_eq_true rfl) dX7_append_10 rfl (Runs.fn ct_X7_in (aw_if_ne 18 dX7_append_13 (by decide) (fun c1 => (aw_aload_n dX7_append_18 rfl (aw_geti fkX7_36 fa_26_6 dX7_append_19 (aw_sipush 160 dX7_append_22 (by decide) (aw_icmp_ne 31 dX7_append_25 (by decide) (fun c2 => (aw_aload_n dX7_append_31 rfl (aw_getr 30 fkX7_19 fa_26_5 dX7_append_32 (aw_aload_n dX7_append_35 rfl (aw_geti fkX7_36 fa_26_6 dX7_append_36 (aw_iload_n dX7_append_39 rfl (aw_iast aa_30 dX7_append_40 ((h.1 c1).1 c2).1 (aw_aload_n dX7_append_41 rfl (aw_dup dX7_append_42 (aw_geti fkX7_36 fa_26_6 dX7_append_43 (aw_iconst 1 dX7_append_46 (by decide) (aw_iadd dX7_append_47 (aw_putf fpX7_36 fa_26_6 (vp_nar_int _) rfl dX7_append_48 (aw_aload_n dX7_append_51 rfl (aw_geti fkX7_36 fa_26_6 dX7_append_52 (aw_iret rfl (vp_nar_int _) dX7_append_55 ((h.1 c1).1 c2).2)))))))))))))))) (fun c2 => (aw_bipush (-3) dX7_append_28 (by decide) (aw_iret rfl (vp_nar_int _) dX7_append_30 ((h.1 c1).2 c2))))))))) (fun c1 => (aw_iconst (-1) dX7_append_16 (by decide) (aw_iret rfl (vp_nar_int _) dX7_append_17 (h.2 c1)))))))))))))
theorem om_append {Γ : Gam} {a : Ab} {g : Mem} {x : Int32} (h : MI a g) (hw : WA a) : Runs Γ 2 yX7_append iX7_append [.inr 26, .inl x] g (OpM (sp_append a x) g) := by
  obtain ⟨s, hs, L, c⟩ := a
  obtain ⟨h1, h2, h3⟩ := MI.iff.mp h
  obtain ⟨w1, w2, w3, w4, w5⟩ := WA.iff.mp hw
  unfold sp_append
  dsimp only
  refine Runs.intro (by decide) rfl (Nat.le_of_ble_eq_true rfl) (sg_X7_append_0 x ?_)
  rw [h3.1, show (160 : Int32) = nI 160 from rfl, nI_eq (by omega) (by decide), nI_1, ix_nI (by omega)]
  refine ⟨fun c1 => ⟨fun c2 => ⟨vp_nI (by omega) (by decide), ?_⟩, fun c2 => ?_⟩, fun c1 => ?_⟩
  · rw [bi_ne0] at c1
    rw [if_pos c1, if_neg (show ¬ L = 160 from c2)]
    refine ⟨rfl, MI.iff.mpr ⟨fun j hj => ?_, ⟨h2.1, ?_, fun i t hi j hj => ?_⟩, ⟨up_at _ _ _ _, fun j hj => ?_⟩⟩, fun k hk => by rw [up_ne (by omega), up_ne (by omega), up_ne (by omega)]⟩
    · rw [up_ne (by decide), up_ne (by decide), up_ne (by decide)]; exact h1 j hj
    · rw [up_nx (by decide), up_ne (by decide), up_nx (by decide)]; exact h2.2.1
    · rw [up_ne (by decide), up_ne (by decide), up_ne (by decide)]; exact h2.2.2 i t hi j hj
    · rw [up_ne (by decide)]
      by_cases hj2 : j = L
      · subst hj2
        rw [up_at, tset_at]
        exact (inI_ex (n := 255) (by decide) c1).2
      · rw [up_nx hj2, tset_ne hj2, up_ne (by decide)]
        exact h3.2 j (by omega)
  · rw [bi_ne0] at c1
    rw [if_pos c1, if_pos (show L = 160 from c2)]; exact OpM.same h
  · rw [bi_eq0] at c1
    rw [if_neg (by simp [c1])]; exact OpM.same h
theorem wa_append {a : Ab} {x : Int32} (hw : WA a) : WA (sp_append a x).2 := by
  unfold sp_append
  split
  · rename_i hi
    split
    · exact hw
    · refine ⟨hw.1, hw.2.1, hw.2.2.1, ?_, fun j hj => ?_⟩
      · have := hw.2.2.2.1
        show a.2.2.1 + 1 ≤ 160
        omega
      · show (if j = a.2.2.1 then x.toNatClampNeg else a.2.2.2 j) ≤ 255
        split
        · exact (inI_ex (n := 255) (by decide) hi).1
        · exact hw.2.2.2.2 j (by have : j < a.2.2.1 + 1 := hj; omega)
  · exact hw
def sp_clear (a : Ab) : Int32 × Ab := (nI a.2.2.1, (a.1, a.2.1, 0, a.2.2.2))
theorem sg_X6_clearText_0 {Γ : Gam} {P : Int32 → Mem → Prop}  {g : Mem} (h : P (g 1 1) (up g 1 1 0)) : AW Γ 1 iX6_clearText P 0 [some (.inr 0)] [] g :=
  (aw_aload_n dX6_clearText_0 rfl (aw_getr 1 fkX6_12 fa_0_0 dX6_clearText_1 (aw_geti fkX6_61 fa_1_1 dX6_clearText_4 (aw_istore_n [some (.inr 0), some (.inl (g 1 1))] dX6_clearText_7 (by decide) rfl (aw_aload_n dX6_clearText_8 rfl (aw_getr 1 fkX6_12 fa_0_0 dX6_clearText_9 (aw_iconst 0 dX6_clearText_12 (by decide) (aw_putf fpX6_61 fa_1_1 (vp_nar_int _) rfl dX6_clearText_13 (aw_iload_n dX6_clearText_16 rfl (aw_iret rfl (vp_nar_int _) dX6_clearText_17 h))))))))))
theorem oc_clear {Γ : Gam} {a : Ab} {g : Mem} (h : CI a g) : Runs Γ 1 yX6_clearText iX6_clearText [.inr 0] g (OpC (sp_clear a) g) := by
  obtain ⟨h1, h2, h3, h4⟩ := h
  refine Runs.intro (by decide) rfl (Nat.le_of_ble_eq_true rfl) (sg_X6_clearText_0 ⟨h3.1, ⟨h1.ext (fun k k1 k2 => by rw [up_ne (by omega)]), h2.ext (by rw [up_ne (by decide)]) (fun k hk => by rw [up_ne (by omega)]), ⟨up_at _ _ _ _, fun j hj => absurd hj (Nat.not_lt_zero _)⟩, h4.ext (by rw [up_ne (by decide)]) (fun k k1 k2 => by rw [up_ne (by omega)])⟩, fun k k1 k2 => by rw [up_ne (by omega)]⟩)
theorem sg_X7_clearText_0 {Γ : Gam} {P : Int32 → Mem → Prop}  {g : Mem} (h : P (g 26 6) (up (up g 26 0 0) 26 6 0)) : AW Γ 1 iX7_clearText P 0 [some (.inr 26)] [] g :=
  (aw_aload_n dX7_clearText_0 rfl (aw_iconst 0 dX7_clearText_1 (by decide) (aw_putf fpX7_32 fa_26_0 (vp_nar_int _) rfl dX7_clearText_2 (aw_aload_n dX7_clearText_5 rfl (aw_geti fkX7_36 fa_26_6 dX7_clearText_6 (aw_istore_n [some (.inr 26), some (.inl (g 26 6))] dX7_clearText_9 (by decide) rfl (aw_aload_n dX7_clearText_10 rfl (aw_iconst 0 dX7_clearText_11 (by decide) (aw_putf fpX7_36 fa_26_6 (vp_nar_int _) rfl dX7_clearText_12 (aw_iload_n dX7_clearText_15 rfl (aw_iret rfl (vp_nar_int _) dX7_clearText_16 h)))))))))))
theorem om_clear {Γ : Gam} {a : Ab} {g : Mem} (h : MI a g) : Runs Γ 1 yX7_clearText iX7_clearText [.inr 26] g (OpM (sp_clear a) g) := by
  obtain ⟨h1, h2, h3⟩ := h
  refine Runs.intro (by decide) rfl (Nat.le_of_ble_eq_true rfl) (sg_X7_clearText_0 ⟨h3.1, ⟨fun j hj => ?_, ⟨h2.1, ?_, fun i t hi j hj => ?_⟩, ⟨up_at _ _ _ _, fun j hj => absurd hj (Nat.not_lt_zero _)⟩⟩, fun k hk => by rw [up_ne (by omega), up_ne (by omega)]⟩)
  · rw [up_ne (by decide), up_ne (by decide)]; exact h1 j hj
  · rw [up_nx (by decide), up_nx (by decide)]; exact h2.2.1
  · rw [up_ne (by decide), up_ne (by decide)]; exact h2.2.2 i t hi j hj
theorem wa_clear {a : Ab} (hw : WA a) : WA (sp_clear a).2 := ⟨hw.1, hw.2.1, hw.2.2.1, Nat.zero_le _, fun j hj => absurd hj (Nat.not_lt_zero _)⟩
/-! questions that change nothing -/
theorem sg_X6_objectCount_0 {Γ : Gam} {P : Int32 → Mem → Prop}  {g : Mem} (h : P (g 34 0) g) : AW Γ 1 iX6_objectCount P 0 [some (.inr 0)] [] g :=
  (aw_aload_n dX6_objectCount_0 rfl (aw_getr 34 fkX6_19 fa_0_1 dX6_objectCount_1 (aw_geti fkX6_83 (fs_0 isSt_34) dX6_objectCount_4 (aw_iret rfl (vp_nar_int _) dX6_objectCount_7 h))))
theorem oc_objectCount {Γ : Gam} {a : Ab} {g : Mem} (h : CI a g) : Runs Γ 1 yX6_objectCount iX6_objectCount [.inr 0] g (OpC (nI (a.1 0), a) g) := Runs.intro (by decide) rfl (Nat.le_of_ble_eq_true rfl) (sg_X6_objectCount_0 (by rw [h.1.1]; exact OpC.same h))
theorem sg_X7_objectCount_0 {Γ : Gam} {P : Int32 → Mem → Prop}  {g : Mem} (h : P (g 27 0) (up g 26 0 0)) : AW Γ 1 iX7_objectCount P 0 [some (.inr 26)] [] g :=
  (aw_aload_n dX7_objectCount_0 rfl (aw_iconst 0 dX7_objectCount_1 (by decide) (aw_putf fpX7_32 fa_26_0 (vp_nar_int _) rfl dX7_objectCount_2 (aw_aload_n dX7_objectCount_5 rfl (aw_getr 27 fkX7_7 fa_26_1 dX7_objectCount_6 (aw_iconst 0 dX7_objectCount_9 (by decide) (aw_iald aa_27 dX7_objectCount_10 (vp_lit 0 (by decide) (by decide)) (aw_iret rfl (vp_nar_int _) dX7_objectCount_11 h))))))))
theorem om_objectCount {Γ : Gam} {a : Ab} {g : Mem} (h : MI a g) : Runs Γ 1 yX7_objectCount iX7_objectCount [.inr 26] g (OpM (nI (a.1 0), a) g) := Runs.intro (by decide) rfl (Nat.le_of_ble_eq_true rfl) (sg_X7_objectCount_0 (by rw [h.1 0 (by decide)]; exact OpM.same h))
theorem sg_X6_referenceCount_0 {Γ : Gam} {P : Int32 → Mem → Prop}  {g : Mem} (h : P (g 34 5) g) : AW Γ 1 iX6_referenceCount P 0 [some (.inr 0)] [] g :=
  (aw_aload_n dX6_referenceCount_0 rfl (aw_getr 34 fkX6_19 fa_0_1 dX6_referenceCount_1 (aw_geti fkX6_109 (fs_5 isSt_34) dX6_referenceCount_4 (aw_iret rfl (vp_nar_int _) dX6_referenceCount_7 h))))
theorem oc_referenceCount {Γ : Gam} {a : Ab} {g : Mem} (h : CI a g) : Runs Γ 1 yX6_referenceCount iX6_referenceCount [.inr 0] g (OpC (nI (a.1 41), a) g) := Runs.intro (by decide) rfl (Nat.le_of_ble_eq_true rfl) (sg_X6_referenceCount_0 (by rw [h.1.2.2.2.2.2.1]; exact OpC.same h))
theorem sg_X7_referenceCount_0 {Γ : Gam} {P : Int32 → Mem → Prop}  {g : Mem} (h : P (g 27 41) (up g 26 0 0)) : AW Γ 1 iX7_referenceCount P 0 [some (.inr 26)] [] g :=
  (aw_aload_n dX7_referenceCount_0 rfl (aw_iconst 0 dX7_referenceCount_1 (by decide) (aw_putf fpX7_32 fa_26_0 (vp_nar_int _) rfl dX7_referenceCount_2 (aw_aload_n dX7_referenceCount_5 rfl (aw_getr 27 fkX7_7 fa_26_1 dX7_referenceCount_6 (aw_bipush 41 dX7_referenceCount_9 (by decide) (aw_iald aa_27 dX7_referenceCount_11 (vp_lit 41 (by decide) (by decide)) (aw_iret rfl (vp_nar_int _) dX7_referenceCount_12 h))))))))
theorem om_referenceCount {Γ : Gam} {a : Ab} {g : Mem} (h : MI a g) : Runs Γ 1 yX7_referenceCount iX7_referenceCount [.inr 26] g (OpM (nI (a.1 41), a) g) := Runs.intro (by decide) rfl (Nat.le_of_ble_eq_true rfl) (sg_X7_referenceCount_0 (by rw [h.1 41 (by decide)]; exact OpM.same h))
theorem sg_X6_undoDepth_0 {Γ : Gam} {P : Int32 → Mem → Prop}  {g : Mem} (h : P (g 4 2) g) : AW Γ 1 iX6_undoDepth P 0 [some (.inr 0)] [] g :=
  (aw_aload_n dX6_undoDepth_0 rfl (aw_getr 4 fkX6_29 fa_0_3 dX6_undoDepth_1 (aw_geti fkX6_208 fa_4_2 dX6_undoDepth_4 (aw_iret rfl (vp_nar_int _) dX6_undoDepth_7 h))))
theorem oc_undoDepth {Γ : Gam} {a : Ab} {g : Mem} (h : CI a g) : Runs Γ 1 yX6_undoDepth iX6_undoDepth [.inr 0] g (OpC (nI a.2.1.length, a) g) := Runs.intro (by decide) rfl (Nat.le_of_ble_eq_true rfl) (sg_X6_undoDepth_0 (by rw [h.2.1.2.1]; exact OpC.same h))
theorem sg_X7_undoDepth_0 {Γ : Gam} {P : Int32 → Mem → Prop}  {g : Mem} (h : P (g 26 4) (up g 26 0 0)) : AW Γ 1 iX7_undoDepth P 0 [some (.inr 26)] [] g :=
  (aw_aload_n dX7_undoDepth_0 rfl (aw_iconst 0 dX7_undoDepth_1 (by decide) (aw_putf fpX7_32 fa_26_0 (vp_nar_int _) rfl dX7_undoDepth_2 (aw_aload_n dX7_undoDepth_5 rfl (aw_geti fkX7_105 fa_26_4 dX7_undoDepth_6 (aw_iret rfl (vp_nar_int _) dX7_undoDepth_9 h))))))
theorem om_undoDepth {Γ : Gam} {a : Ab} {g : Mem} (h : MI a g) : Runs Γ 1 yX7_undoDepth iX7_undoDepth [.inr 26] g (OpM (nI a.2.1.length, a) g) := Runs.intro (by decide) rfl (Nat.le_of_ble_eq_true rfl) (sg_X7_undoDepth_0 (by rw [h.2.1.2.1]; exact OpM.same h))
def sp_kind (a : Ab) (x : Int32) : Int32 := if inR (a.1 0) x then nI (a.1 (1 + x.toNatClampNeg)) else -1
theorem sg_X6_kind_0 {Γ : Gam} {P : Int32 → Mem → Prop}  (s : St) (a1 : Int32) {g : Mem} (h : (CW 34 s g ∧ (((bi (inR (s 0) a1)) = 0 → P (-1) g) ∧ (¬ (bi (inR (s 0) a1)) = 0 → (vp_in a1 10 ∧ P (g 35 a1.toNatClampNeg) g))))) : AW Γ 2 iX6_kind P 0 [some (.inr 0), some (.inl a1)] [] g :=
  (aw_aload_n dX6_kind_0 rfl (aw_getr 34 fkX6_19 fa_0_1 dX6_kind_1 (aw_iload_n dX6_kind_4 rfl (aw_callVi lkX6_86 ckX4_has (cs_ isSt_34) rfl (d := 1) (by decide) [.inl a1] rfl rfl (Nat.le_of_ble_eq_true rfl) dX6_kind_5 rfl (Runs.fn ((ct_X4_has isSt_34) h.1) (aw_if_eq 23 dX6_kind_8 (by decide) (fun c1 => (aw_iconst (-1) dX6_kind_23 (by decide) (aw_iret rfl (vp_nar_int _) dX6_kind_24 (h.2.1 c1)))) (fun c1 => (aw_aload_n dX6_kind_11 rfl (aw_getr 34 fkX6_19 fa_0_1 dX6_kind_12 (aw_getr 35 fkX6_90 (fs_1 isSt_34) dX6_kind_15 (aw_iload_n dX6_kind_18 rfl (aw_iald (as_1 (b := 34) isSt_34) dX6_kind_19 (h.2.2 c1).1 (aw_goto 24 dX6_kind_20 (by decide) (aw_iret rfl (vp_nar_int _) dX6_kind_24 (h.2.2 c1).2))))))))))))))
theorem oc_kind {Γ : Gam} {a : Ab} {g : Mem} {x : Int32} (h : CI a g) (hw : WA a) : Runs Γ 2 yX6_kind iX6_kind [.inr 0, .inl x] g (OpC (sp_kind a x, a) g) := by
  unfold sp_kind
  refine Runs.intro (by decide) rfl (Nat.le_of_ble_eq_true rfl) (sg_X6_kind_0 a.1 x ⟨h.s hw, fun c1 => ?_, fun c1 => ⟨vp_inR (bi_ne0.mp c1) hw.1.n (by decide), ?_⟩⟩)
  · rw [bi_eq0] at c1; rw [if_neg (by simp [c1])]; exact OpC.same h
  · rw [bi_ne0] at c1; rw [if_pos c1, h.1.2.1 _ (inR_ex c1).1]; exact OpC.same h
theorem sg_X7_kind_0 {Γ : Gam} {P : Int32 → Mem → Prop}  (s : St) (a1 : Int32) {g : Mem} (h : (MW 27 s (up g 26 0 0) ∧ (((bi (inR (s 0) a1)) = 0 → P (-1) (up g 26 0 0)) ∧ (¬ (bi (inR (s 0) a1)) = 0 → (vp_in (1 + a1) 81 ∧ P (g 27 (1 + a1).toNatClampNeg) (up g 26 0 0)))))) : AW Γ 3 iX7_kind P 0 [some (.inr 26), some (.inl a1)] [] g :=
  (aw_aload_n dX7_kind_0 rfl (aw_iconst 0 dX7_kind_1 (by decide) (aw_putf fpX7_32 fa_26_0 (vp_nar_int _) rfl dX7_kind_2 (aw_aload_n dX7_kind_5 rfl (aw_iload_n dX7_kind_6 rfl (aw_callVi lkX7_108 ckX7_isObject ca_26 rfl (d := 2) (by decide) [.inl a1] rfl rfl (Nat.le_of_ble_eq_true rfl) dX7_kind_7 rfl (Runs.fn (ct_X7_isObject h.1) (aw_if_eq 24 dX7_kind_10 (by decide) (fun c1 => (aw_iconst (-1) dX7_kind_24 (by decide) (aw_iret rfl (vp_nar_int _) dX7_kind_25 (h.2.1 c1)))) (fun c1 => (aw_aload_n dX7_kind_13 rfl (aw_getr 27 fkX7_7 fa_26_1 dX7_kind_14 (aw_iconst 1 dX7_kind_17 (by decide) (aw_iload_n dX7_kind_18 rfl (aw_iadd dX7_kind_19 (aw_iald aa_27 dX7_kind_20 (h.2.2 c1).1 (aw_goto 25 dX7_kind_21 (by decide) (aw_iret rfl (vp_nar_int _) dX7_kind_25 (h.2.2 c1).2)))))))))))))))))
theorem om_kind {Γ : Gam} {a : Ab} {g : Mem} {x : Int32} (h : MI a g) (hw : WA a) : Runs Γ 3 yX7_kind iX7_kind [.inr 26, .inl x] g (OpM (sp_kind a x, a) g) := by
  unfold sp_kind
  refine Runs.intro (by decide) rfl (Nat.le_of_ble_eq_true rfl) (sg_X7_kind_0 a.1 x ⟨h.thr.s hw, fun c1 => ?_, fun c1 => ?_⟩)
  · rw [bi_eq0] at c1; rw [if_neg (by simp [c1])]; exact OpM.same h
  · rw [bi_ne0] at c1
    obtain ⟨h1, h2⟩ := (h.s hw).ix c1 1 (by decide)
    refine ⟨h1, ?_⟩
    rw [if_pos c1, show (1 : Int32) + x = nI 1 + x from rfl, h2]; exact OpM.same h
def sp_behaviour (a : Ab) (x : Int32) : Int32 := if isK a.1 x 0 then nI (a.1 (11 + x.toNatClampNeg)) else -1
theorem sg_X6_behaviour_0 {Γ : Gam} {P : Int32 → Mem → Prop}  (s : St) (a1 : Int32) {g : Mem} (h : (CW 34 s g ∧ (((bi (isK s a1 0)) = 0 → P (-1) g) ∧ (¬ (bi (isK s a1 0)) = 0 → (vp_in a1 10 ∧ P (g 36 a1.toNatClampNeg) g))))) : AW Γ 3 iX6_behaviour P 0 [some (.inr 0), some (.inl a1)] [] g :=
  (aw_aload_n dX6_behaviour_0 rfl (aw_getr 34 fkX6_19 fa_0_1 dX6_behaviour_1 (aw_iload_n dX6_behaviour_4 rfl (aw_callVi lkX6_93 ckX4_isAgent (cs_ isSt_34) rfl (d := 2) (by decide) [.inl a1] rfl rfl (Nat.le_of_ble_eq_true rfl) dX6_behaviour_5 rfl (Runs.fn ((ct_X4_isAgent isSt_34) h.1) (aw_if_eq 23 dX6_behaviour_8 (by decide) (fun c1 => (aw_iconst (-1) dX6_behaviour_23 (by decide) (aw_iret rfl (vp_nar_int _) dX6_behaviour_24 (h.2.1 c1)))) (fun c1 => (aw_aload_n dX6_behaviour_11 rfl (aw_getr 34 fkX6_19 fa_0_1 dX6_behaviour_12 (aw_getr 36 fkX6_96 (fs_2 isSt_34) dX6_behaviour_15 (aw_iload_n dX6_behaviour_18 rfl (aw_iald (as_2 (b := 34) isSt_34) dX6_behaviour_19 (h.2.2 c1).1 (aw_goto 24 dX6_behaviour_20 (by decide) (aw_iret rfl (vp_nar_int _) dX6_behaviour_24 (h.2.2 c1).2))))))))))))))
theorem oc_behaviour {Γ : Gam} {a : Ab} {g : Mem} {x : Int32} (h : CI a g) (hw : WA a) : Runs Γ 3 yX6_behaviour iX6_behaviour [.inr 0, .inl x] g (OpC (sp_behaviour a x, a) g) := by
  unfold sp_behaviour
  refine Runs.intro (by decide) rfl (Nat.le_of_ble_eq_true rfl) (sg_X6_behaviour_0 a.1 x ⟨h.s hw, fun c1 => ?_, fun c1 => ⟨vp_inR (isK_in (bi_ne0.mp c1)).1 hw.1.n (by decide), ?_⟩⟩)
  · rw [bi_eq0] at c1; rw [if_neg (by simp [c1])]; exact OpC.same h
  · rw [bi_ne0] at c1
    obtain ⟨h1, h2⟩ := isK_kd hw.1 (k := 0) (by decide) c1
    rw [if_pos c1, h.1.2.2.1 _ h1 (by omega)]; exact OpC.same h
theorem sg_X7_behaviour_0 {Γ : Gam} {P : Int32 → Mem → Prop}  (s : St) (a1 : Int32) {g : Mem} (h : (MW 27 s (up g 26 0 0) ∧ (((bi (isK s a1 0)) = 0 → P (-1) (up g 26 0 0)) ∧ (¬ (bi (isK s a1 0)) = 0 → (vp_in (11 + a1) 81 ∧ P (g 27 (11 + a1).toNatClampNeg) (up g 26 0 0)))))) : AW Γ 4 iX7_behaviour P 0 [some (.inr 26), some (.inl a1)] [] g :=
  (aw_aload_n dX7_behaviour_0 rfl (aw_iconst 0 dX7_behaviour_1 (by decide) (aw_putf fpX7_32 fa_26_0 (vp_nar_int _) rfl dX7_behaviour_2 (aw_aload_n dX7_behaviour_5 rfl (aw_iload_n dX7_behaviour_6 rfl (aw_iconst 0 dX7_behaviour_7 (by decide) (aw_callVi lkX7_112 ckX7_isOf ca_26 rfl (d := 3) (by decide) [.inl a1, .inl 0] rfl rfl (Nat.le_of_ble_eq_true rfl) dX7_behaviour_8 rfl (Runs.fn (ct_X7_isOf h.1) (aw_if_eq 26 dX7_behaviour_11 (by decide) (fun c1 => (aw_iconst (-1) dX7_behaviour_26 (by decide) (aw_iret rfl (vp_nar_int _) dX7_behaviour_27 (h.2.1 c1)))) (fun c1 => (aw_aload_n dX7_behaviour_14 rfl (aw_getr 27 fkX7_7 fa_26_1 dX7_behaviour_15 (aw_bipush 11 dX7_behaviour_18 (by decide) (aw_iload_n dX7_behaviour_20 rfl (aw_iadd dX7_behaviour_21 (aw_iald aa_27 dX7_behaviour_22 (h.2.2 c1).1 (aw_goto 27 dX7_behaviour_23 (by decide) (aw_iret rfl (vp_nar_int _) dX7_behaviour_27 (h.2.2 c1).2))))))))))))))))))
theorem om_behaviour {Γ : Gam} {a : Ab} {g : Mem} {x : Int32} (h : MI a g) (hw : WA a) : Runs Γ 4 yX7_behaviour iX7_behaviour [.inr 26, .inl x] g (OpM (sp_behaviour a x, a) g) := by
  unfold sp_behaviour
  refine Runs.intro (by decide) rfl (Nat.le_of_ble_eq_true rfl) (sg_X7_behaviour_0 a.1 x ⟨h.thr.s hw, fun c1 => ?_, fun c1 => ?_⟩)
  · rw [bi_eq0] at c1; rw [if_neg (by simp [c1])]; exact OpM.same h
  · rw [bi_ne0] at c1
    obtain ⟨h1, h2⟩ := (h.s hw).ix (isK_in c1).1 11 (by decide)
    refine ⟨h1, ?_⟩
    rw [if_pos c1, show (11 : Int32) + x = nI 11 + x from rfl, h2]; exact OpM.same h
def sp_holdsInRun (a : Ab) (x y : Int32) : Int32 := if inR (a.1 0) x && inR (a.1 0) y then bi (hasB (nI (a.1 (71 + x.toNatClampNeg))) y) else -1
theorem inR_10 {s : St} (hw : WF s) {x : Int32} (h : inR (s 0) x = true) : inR 10 x = true := by
  simp only [inR, decide_eq_true_eq] at h ⊢
  have := hw.n
  omega
