/-! The class's reader: numbers, what is allowed, the draft. -/
theorem tT_le {L : Nat} {c : Nat → Nat} {i : Nat} : tT L c i ≤ 4 := by
  have := ty_le (c (tF L c i))
  unfold tT
  split <;> omega
theorem tT_lt {L : Nat} {c : Nat → Nat} {i : Nat} (h : tT L c i ≠ 0) : tF L c i < L := by
  rcases Nat.lt_or_ge (tF L c i) L with q | q
  · exact q
  · exact absurd (by unfold tT; rw [if_neg (by omega)]) h
theorem mT_2 {L : Nat} {c : Nat → Nat} {i : Nat} : mT L c i = 2 ↔ tT L c i = 2 ∧ nv c (tF L c i) (tB L c i) ≠ 100 := by
  unfold mT
  split
  · rename_i d
    exact ⟨fun q => by omega, fun q => absurd d.2 q.2⟩
  · rename_i d
    exact ⟨fun q => ⟨q, fun z => d ⟨q, z⟩⟩, fun q => q.1⟩
theorem tB_dig {L : Nat} {c : Nat → Nat} {i : Nat} (h : tT L c i = 2) : tF L c i < L ∧ ∀ j, tF L c i ≤ j → j < tB L c i → 48 ≤ c j ∧ c j ≤ 57 := by
  have hF : tF L c i < L := tT_lt (by omega)
  have eT : tT L c i = ty (c (tF L c i)) := by unfold tT; rw [if_pos hF]
  refine ⟨hF, fun j j1 j2 => ty_dig ?_⟩
  rcases Nat.eq_or_lt_of_le j1 with q | q
  · rw [← q, ← eT]; exact h
  · have eB : tB L c i = ff (fun j => !decide (ty (c j) = tT L c i)) (tF L c i + 1) (L - (tF L c i + 1)) := by unfold tB; rw [if_pos hF, if_pos (Or.inr h)]
    rw [eB] at j2
    have := ff_no _ _ _ j q j2
    rw [h] at this
    simpa using this
theorem nv_lt {L : Nat} {c : Nat → Nat} {i : Nat} (hi : i ≤ L) (h : mT L c i = 2) : nv c (tF L c i) (tB L c i) < 100 := by
  obtain ⟨h1, h2⟩ := mT_2.mp h
  obtain ⟨d1, d2⟩ := tB_dig h1
  have hB := (tB_le (c := c) hi).2.2 d1
  have c0 := d2 _ (Nat.le_refl _) hB
  unfold nv at h2 ⊢
  split
  · omega
  · rename_i q
    rw [if_neg q] at h2
    split
    · rename_i q2
      have c1 := d2 (tF L c i + 1) (by omega) (by omega)
      omega
    · rename_i q2
      rw [if_neg q2] at h2
      exact absurd rfl h2
def nmI (L : Nat) (c : Nat → Nat) (i : Nat) : Int32 := if mT L c i = 2 then nI (nv c (tF L c i) (tB L c i)) else -1
theorem sg_X5_numberValue_0 {Γ : Gam} {P : Int32 → Mem → Prop}  {g : Mem} (h : (((g 1 2) = 2 → (vp_in (g 1 3) 160 ∧ ((¬ ((g 1 4) - (g 1 3)) = 1 → ((2 < ((g 1 4) - (g 1 3)) → P (-1) g) ∧ (¬ (2 < ((g 1 4) - (g 1 3))) → ((¬ ((g 2 (g 1 3).toNatClampNeg) - 48) = 0 → (vp_in ((g 1 3) + 1) 160 ∧ P (((((g 2 (g 1 3).toNatClampNeg) - 48) * 10) + (g 2 ((g 1 3) + 1).toNatClampNeg)) - 48) g)) ∧ (((g 2 (g 1 3).toNatClampNeg) - 48) = 0 → P (-1) g))))) ∧ (((g 1 4) - (g 1 3)) = 1 → P ((g 2 (g 1 3).toNatClampNeg) - 48) g)))) ∧ (¬ (g 1 2) = 2 → P (-1) g))) : AW Γ 1 iX5_numberValue P 0 [some (.inr 1)] [] g :=
  (aw_aload_n dX5_numberValue_0 rfl (aw_geti fkX5_19 fa_1_2 dX5_numberValue_1 (aw_iconst 2 dX5_numberValue_4 (by decide) (aw_icmp_eq 10 dX5_numberValue_5 (by decide) (fun c1 => (aw_aload_n dX5_numberValue_10 rfl (aw_getr 2 fkX5_9 fa_1_0 dX5_numberValue_11 (aw_aload_n dX5_numberValue_14 rfl (aw_geti fkX5_22 fa_1_3 dX5_numberValue_15 (aw_iald aa_2 dX5_numberValue_18 (h.1 c1).1 (aw_bipush 48 dX5_numberValue_19 (by decide) (aw_isub dX5_numberValue_21 (aw_istore_n [some (.inr 1), some (.inl ((g 2 (g 1 3).toNatClampNeg) - 48))] dX5_numberValue_22 (by decide) rfl (aw_aload_n dX5_numberValue_23 rfl (aw_geti fkX5_25 fa_1_4 dX5_numberValue_24 (aw_aload_n dX5_numberValue_27 rfl (aw_geti fkX5_22 fa_1_3 dX5_numberValue_28 (aw_isub dX5_numberValue_31 (aw_iconst 1 dX5_numberValue_32 (by decide) (aw_icmp_ne 38 dX5_numberValue_33 (by decide) (fun c2 => (aw_aload_n dX5_numberValue_38 rfl (aw_geti fkX5_25 fa_1_4 dX5_numberValue_39 (aw_aload_n dX5_numberValue_42 rfl (aw_geti fkX5_22 fa_1_3 dX5_numberValue_43 (aw_isub dX5_numberValue_46 (aw_iconst 2 dX5_numberValue_47 (by decide) (aw_icmp_gt 55 dX5_numberValue_48 (by decide) (fun c3 => (aw_iconst (-1) dX5_numberValue_55 (by decide) (aw_iret rfl (vp_nar_int _) dX5_numberValue_56 (((h.1 c1).2.1 c2).1 c3)))) (fun c3 => (aw_iload_n dX5_numberValue_51 rfl (aw_if_ne 57 dX5_numberValue_52 (by decide) (fun c4 => (aw_iload_n dX5_numberValue_57 rfl (aw_bipush 10 dX5_numberValue_58 (by decide) (aw_imul dX5_numberValue_60 (aw_aload_n dX5_numberValue_61 rfl (aw_getr 2 fkX5_9 fa_1_0 dX5_numberValue_62 (aw_aload_n dX5_numberValue_65 rfl (aw_geti fkX5_22 fa_1_3 dX5_numberValue_66 (aw_iconst 1 dX5_numberValue_69 (by decide) (aw_iadd dX5_numberValue_70 (aw_iald aa_2 dX5_numberValue_71 ((((h.1 c1).2.1 c2).2 c3).1 c4).1 (aw_iadd dX5_numberValue_72 (aw_bipush 48 dX5_numberValue_73 (by decide) (aw_isub dX5_numberValue_75 (aw_iret rfl (vp_nar_int _) dX5_numberValue_76 ((((h.1 c1).2.1 c2).2 c3).1 c4).2))))))))))))))) (fun c4 => (aw_iconst (-1) dX5_numberValue_55 (by decide) (aw_iret rfl (vp_nar_int _) dX5_numberValue_56 ((((h.1 c1).2.1 c2).2 c3).2 c4))))))))))))))) (fun c2 => (aw_iload_n dX5_numberValue_36 rfl (aw_iret rfl (vp_nar_int _) dX5_numberValue_37 ((h.1 c1).2.2 c2)))))))))))))))))))) (fun c1 => (aw_iconst (-1) dX5_numberValue_8 (by decide) (aw_iret rfl (vp_nar_int _) dX5_numberValue_9 (h.2 c1))))))))
theorem ct_X5_numberValue {Γ : Gam} {L : Nat} {c : Nat → Nat} {g : Mem} {i : Nat} (hL : L ≤ 160) (hc : ∀ j, j < L → c j ≤ 255) (hi : i ≤ L) (hT : TkC L c i g) : Runs Γ 1 yX5_numberValue iX5_numberValue [.inr 1] g (fun r g' => r = nmI L c i ∧ g' = g) := by
  obtain ⟨t1, t2, t3, t4⟩ := hT
  have hF := tF_le (c := c) hi
  have hB := tB_le (c := c) hi
  have hTl := tT_le (L := L) (c := c) (i := i)
  refine Runs.intro (by decide) rfl (Nat.le_of_ble_eq_true rfl) (sg_X5_numberValue_0 ?_)
  rw [t2, t3, t4, nI_sb hB.1]
  by_cases d : tT L c i = 2
  · obtain ⟨d1, d2⟩ := tB_dig d
    have hB1 := hB.2.2 d1
    have c0 := d2 _ (Nat.le_refl _) hB1
    have e0 : g 2 (tF L c i) = nI (c (tF L c i)) := t1.2 _ d1
    have a1 : nI (c (tF L c i)) - 48 = nI (c (tF L c i) - 48) := nI_sb (a := c (tF L c i)) (b := 48) c0.1
    have no : ∀ v : Int32, nv c (tF L c i) (tB L c i) = 100 → v = -1 → v = nmI L c i ∧ g = g := by
      intro v z e
      refine ⟨?_, rfl⟩
      unfold nmI
      rw [if_neg (fun y => (mT_2.mp y).2 z)]
      exact e
    have yes : ∀ v : Int32, nv c (tF L c i) (tB L c i) ≠ 100 → v = nI (nv c (tF L c i) (tB L c i)) → v = nmI L c i ∧ g = g := by
      intro v z e
      refine ⟨?_, rfl⟩
      unfold nmI
      rw [if_pos (mT_2.mpr ⟨d, z⟩)]
      exact e
    rw [ix_nI (n := tF L c i) (by omega), e0, a1]
    refine ⟨fun _ => ⟨vp_nI (by omega) (by decide), fun q => ⟨fun q2 => ?_, fun q2 => ⟨fun q3 => ?_, fun q3 => ?_⟩⟩, fun q => ?_⟩, fun q => absurd (by rw [d]; rfl) q⟩
    · have z1 : 2 < tB L c i - tF L c i := (nI_ltI (a := 2) (by decide) (by omega)).mp q2
      exact no _ (by unfold nv; rw [if_neg (by omega), if_neg (by omega)]) rfl
    · have z1 : ¬ 2 < tB L c i - tF L c i := fun z => q2 ((nI_ltI (a := 2) (by decide) (by omega)).mpr z)
      have z0 : tB L c i - tF L c i ≠ 1 := fun z => q (by rw [z]; rfl)
      have z3 : c (tF L c i) - 48 ≠ 0 := fun z => q3 (by rw [z]; rfl)
      have c1 := d2 (tF L c i + 1) (by omega) (by omega)
      have e1 : g 2 (tF L c i + 1) = nI (c (tF L c i + 1)) := t1.2 _ (by omega)
      have en : nv c (tF L c i) (tB L c i) = 10 * (c (tF L c i) - 48) + (c (tF L c i + 1) - 48) := by unfold nv; rw [if_neg z0, if_pos ⟨by omega, by omega⟩]
      rw [nI_1, ix_nI (n := tF L c i + 1) (by omega), e1]
      refine ⟨vp_nI (by omega) (by decide), yes _ (by omega) ?_⟩
      rw [en, pair_nI]
      show nI _ - nI 48 = _
      rw [nI_sb (by omega)]
      congr 1
      omega
    · have z3 : c (tF L c i) - 48 = 0 := (nI_eq (b := 0) (by omega) (by decide)).mp q3
      have z0 : tB L c i - tF L c i ≠ 1 := fun z => q (by rw [z]; rfl)
      exact no _ (by unfold nv; rw [if_neg z0, if_neg (fun y => y.2 (by omega))]) rfl
    · have z0 : tB L c i - tF L c i = 1 := (nI_eq (b := 1) (by omega) (by decide)).mp q
      have en : nv c (tF L c i) (tB L c i) = c (tF L c i) - 48 := by unfold nv; rw [if_pos z0]
      exact yes _ (by omega) (by rw [en])
  · refine ⟨fun q => absurd ((nI_eq (b := 2) (by omega) (by decide)).mp q) d, fun _ => ⟨?_, rfl⟩⟩
    unfold nmI
    rw [if_neg (fun y => d (mT_2.mp y).1)]
theorem sg_X5_isFull_0 {Γ : Gam} {P : Int32 → Mem → Prop}  (a2 : Int32) {g : Mem} (h : ((¬ a2 = 4 → (((g 44 0) < 10 → P 0 g) ∧ (¬ ((g 44 0) < 10) → P 1 g))) ∧ (a2 = 4 → (((g 44 5) < 10 → P 0 g) ∧ (¬ ((g 44 5) < 10) → P 1 g))))) : AW Γ 1 iX5_isFull P 0 [some (.inr 1), some (.inr 44), some (.inl a2)] [] g :=
  (aw_iload_n dX5_isFull_0 rfl (aw_iconst 4 dX5_isFull_1 (by decide) (aw_icmp_ne 20 dX5_isFull_2 (by decide) (fun c1 => (aw_aload_n dX5_isFull_20 rfl (aw_geti fkX5_65 (fs_0 isSt_44) dX5_isFull_21 (aw_bipush 10 dX5_isFull_24 (by decide) (aw_icmp_lt 33 dX5_isFull_26 (by decide) (fun c2 => (aw_iconst 0 dX5_isFull_33 (by decide) (aw_iret rfl (by decide) dX5_isFull_34 ((h.1 c1).1 c2)))) (fun c2 => (aw_iconst 1 dX5_isFull_29 (by decide) (aw_goto 34 dX5_isFull_30 (by decide) (aw_iret rfl (by decide) dX5_isFull_34 ((h.1 c1).2 c2)))))))))) (fun c1 => (aw_aload_n dX5_isFull_5 rfl (aw_geti fkX5_62 (fs_5 isSt_44) dX5_isFull_6 (aw_bipush 10 dX5_isFull_9 (by decide) (aw_icmp_lt 18 dX5_isFull_11 (by decide) (fun c3 => (aw_iconst 0 dX5_isFull_18 (by decide) (aw_iret rfl (by decide) dX5_isFull_19 ((h.2 c1).1 c3)))) (fun c3 => (aw_iconst 1 dX5_isFull_14 (by decide) (aw_goto 19 dX5_isFull_15 (by decide) (aw_iret rfl (by decide) dX5_isFull_19 ((h.2 c1).2 c3)))))))))))))
theorem ct_X5_isFull {Γ : Gam} {s : St} {g : Mem} {K : Nat} (h : CW 44 s g) (hK : K ≤ 4) : Runs Γ 1 yX5_isFull iX5_isFull [.inr 1, .inr 44, .inl (nI K)] g (fun r g' => r = bi (full s K) ∧ g' = g) := by
  obtain ⟨c1, c2, c3, c4, c5, c6, c7, c8, c9, c10⟩ := h.1
  have hn := h.2.n
  have hr := h.2.nr
  have lt : ∀ n : Nat, n ≤ 10 → ∀ b : Bool, b = decide (10 ≤ n) → ((nI n < 10 → (0 : Int32) = bi b ∧ g = g) ∧ (¬ nI n < 10 → (1 : Int32) = bi b ∧ g = g)) := by
    intro n hn b hb
    have e : nI n < 10 ↔ n < 10 := nI_ltI (b := 10) (by omega) (by decide)
    rw [e, hb]
    exact ⟨fun q => by rw [decide_eq_false (by omega)]; exact ⟨rfl, rfl⟩, fun q => by rw [decide_eq_true (by omega)]; exact ⟨rfl, rfl⟩⟩
  refine Runs.intro (by decide) rfl (Nat.le_of_ble_eq_true rfl) (sg_X5_isFull_0 _ ?_)
  rw [c1, c6]
  refine ⟨fun q => lt _ hn _ ?_, fun q => lt _ hr _ ?_⟩
  · unfold full
    rw [if_neg (fun z => q (by rw [z]; rfl))]
  · have z : K = 4 := (nI_eq (b := 4) (by omega) (by decide)).mp q
    unfold full
    rw [if_pos z]
theorem acc_lt {P : Int32 → Mem → Prop} {g : Mem} {v n : Nat} (hv : v < 100) (hn : n < 2 ^ 31) {b : Bool} (hb : b = decide (v < n)) (h : P (bi b) g) : (nI n ≤ nI v → P 0 g) ∧ (¬ nI n ≤ nI v → P 1 g) := by
  rw [nI_leI hn (by omega)]
  refine ⟨fun q => ?_, fun q => ?_⟩
  · rw [hb, decide_eq_false (by omega)] at h; exact h
  · rw [hb, decide_eq_true (by omega)] at h; exact h
theorem refP_nI {s : St} (hw : WF s) {a v : Nat} (ha : a < 100) (hv : v < 100) : ff (refP s (nI a) (nI v)) 0 (s 41) = ff (fun j => decide (s (42 + 2 * j) = a ∧ s (42 + 2 * j + 1) = v)) 0 (s 41) := by
  refine ff_cong _ _ (fun j j1 j2 => ?_)
  have hn := hw.n
  have h1 := hw.rf (k := j) (by omega)
  unfold refP
  rw [Bool.eq_iff_iff, Bool.and_eq_true, decide_eq_true_eq, decide_eq_true_eq, decide_eq_true_eq, nI_eq (by omega) (by omega), nI_eq (by omega) (by omega)]
theorem sg_X5_accepts_0 {Γ : Gam} {P : Int32 → Mem → Prop}  (s : St) (a2 a3 a4 : Int32) {g : Mem} (h : ((a2 = 0 → ((¬ a3 = 0 → ((6 ≤ a4 → P 0 g) ∧ (¬ (6 ≤ a4) → P 1 g))) ∧ (a3 = 0 → ((16 ≤ a4 → P 0 g) ∧ (¬ (16 ≤ a4) → P 1 g))))) ∧ (a2 = 1 → ((¬ a3 = 0 → ((¬ a3 = 1 → ((6 ≤ a4 → P 0 g) ∧ (¬ (6 ≤ a4) → P 1 g))) ∧ (a3 = 1 → (CW 44 s g ∧ (bz (bi (inR (s 0) a4)) ∧ P (bi (inR (s 0) a4)) g))))) ∧ (a3 = 0 → ((4 ≤ a4 → P 0 g) ∧ (¬ (4 ≤ a4) → P 1 g))))) ∧ (a2 = 2 → ((¬ a3 = 0 → ((6 ≤ a4 → P 0 g) ∧ (¬ (6 ≤ a4) → P 1 g))) ∧ (a3 = 0 → ((4 ≤ a4 → P 0 g) ∧ (¬ (4 ≤ a4) → P 1 g))))) ∧ (a2 = 3 → ((¬ a3 = 0 → ((6 ≤ a4 → P 0 g) ∧ (¬ (6 ≤ a4) → P 1 g))) ∧ (a3 = 0 → (CW 44 s g ∧ (bz (bi (isK s a4 0)) ∧ P (bi (isK s a4 0)) g))))) ∧ (a2 = 4 → ((¬ a3 = 0 → (CW 44 s g ∧ (((bi (inR (s 0) a4)) = 0 → P 0 g) ∧ (¬ (bi (inR (s 0) a4)) = 0 → (CW 44 s g ∧ ((¬ (bi (decide (ff (refP s (g 3 0) a4) 0 (s 41) < s 41))) = 0 → P 0 g) ∧ ((bi (decide (ff (refP s (g 3 0) a4) 0 (s 41) < s 41))) = 0 → P 1 g))))))) ∧ (a3 = 0 → (CW 44 s g ∧ (bz (bi (isH s a4)) ∧ P (bi (isH s a4)) g))))) ∧ ((¬ a2 = 0 ∧ ¬ a2 = 1 ∧ ¬ a2 = 2 ∧ ¬ a2 = 3 ∧ ¬ a2 = 4) → P 0 g))) : AW Γ 3 iX5_accepts P 0 [some (.inr 1), some (.inr 44), some (.inl a2), some (.inl a3), some (.inl a4)] [] g :=
  (aw_iload_n dX5_accepts_0 rfl (aw_tsw 36 68 113 144 170 213 dX5_accepts_1 (by decide) (by decide) (by decide) (by decide) (by decide) (by decide) (fun c1 => (aw_iload_n dX5_accepts_36 rfl (aw_if_ne 55 dX5_accepts_37 (by decide) (fun c2 => (aw_iload dX5_accepts_55 rfl (aw_bipush 6 dX5_accepts_57 (by decide) (aw_icmp_ge 66 dX5_accepts_59 (by decide) (fun c3 => (aw_iconst 0 dX5_accepts_66 (by decide) (aw_iret rfl (by decide) dX5_accepts_67 (((h.1 c1).1 c2).1 c3)))) (fun c3 => (aw_iconst 1 dX5_accepts_62 (by decide) (aw_goto 67 dX5_accepts_63 (by decide) (aw_iret rfl (by decide) dX5_accepts_67 (((h.1 c1).1 c2).2 c3))))))))) (fun c2 => (aw_iload dX5_accepts_40 rfl (aw_bipush 16 dX5_accepts_42 (by decide) (aw_icmp_ge 51 dX5_accepts_44 (by decide) (fun c4 => (aw_iconst 0 dX5_accepts_51 (by decide) (aw_goto 67 dX5_accepts_52 (by decide) (aw_iret rfl (by decide) dX5_accepts_67 (((h.1 c1).2 c2).1 c4))))) (fun c4 => (aw_iconst 1 dX5_accepts_47 (by decide) (aw_goto 67 dX5_accepts_48 (by decide) (aw_iret rfl (by decide) dX5_accepts_67 (((h.1 c1).2 c2).2 c4)))))))))))) (fun c1 => (aw_iload_n dX5_accepts_68 rfl (aw_if_ne 86 dX5_accepts_69 (by decide) (fun c5 => (aw_iload_n dX5_accepts_86 rfl (aw_iconst 1 dX5_accepts_87 (by decide) (aw_icmp_ne 100 dX5_accepts_88 (by decide) (fun c6 => (aw_iload dX5_accepts_100 rfl (aw_bipush 6 dX5_accepts_102 (by decide) (aw_icmp_ge 111 dX5_accepts_104 (by decide) (fun c7 => (aw_iconst 0 dX5_accepts_111 (by decide) (aw_iret rfl (by decide) dX5_accepts_112 ((((h.2.1 c1).1 c5).1 c6).1 c7)))) (fun c7 => (aw_iconst 1 dX5_accepts_107 (by decide) (aw_goto 112 dX5_accepts_108 (by decide) (aw_iret rfl (by decide) dX5_accepts_112 ((((h.2.1 c1).1 c5).1 c6).2 c7))))))))) (fun c6 => (aw_aload_n dX5_accepts_91 rfl (aw_iload dX5_accepts_92 rfl (aw_callVi lkX5_68 ckX4_has (cs_ isSt_44) rfl (d := 1) (by decide) [.inl a4] rfl rfl (Nat.le_of_ble_eq_true rfl) dX5_accepts_94 rfl (Runs.fn ((ct_X4_has isSt_44) (((h.2.1 c1).1 c5).2 c6).1) (aw_goto 112 dX5_accepts_97 (by decide) (aw_iret rfl (((h.2.1 c1).1 c5).2 c6).2.1 dX5_accepts_112 (((h.2.1 c1).1 c5).2 c6).2.2))))))))))) (fun c5 => (aw_iload dX5_accepts_72 rfl (aw_iconst 4 dX5_accepts_74 (by decide) (aw_icmp_ge 82 dX5_accepts_75 (by decide) (fun c8 => (aw_iconst 0 dX5_accepts_82 (by decide) (aw_goto 112 dX5_accepts_83 (by decide) (aw_iret rfl (by decide) dX5_accepts_112 (((h.2.1 c1).2 c5).1 c8))))) (fun c8 => (aw_iconst 1 dX5_accepts_78 (by decide) (aw_goto 112 dX5_accepts_79 (by decide) (aw_iret rfl (by decide) dX5_accepts_112 (((h.2.1 c1).2 c5).2 c8)))))))))))) (fun c1 => (aw_iload_n dX5_accepts_113 rfl (aw_if_ne 131 dX5_accepts_114 (by decide) (fun c9 => (aw_iload dX5_accepts_131 rfl (aw_bipush 6 dX5_accepts_133 (by decide) (aw_icmp_ge 142 dX5_accepts_135 (by decide) (fun c10 => (aw_iconst 0 dX5_accepts_142 (by decide) (aw_iret rfl (by decide) dX5_accepts_143 (((h.2.2.1 c1).1 c9).1 c10)))) (fun c10 => (aw_iconst 1 dX5_accepts_138 (by decide) (aw_goto 143 dX5_accepts_139 (by decide) (aw_iret rfl (by decide) dX5_accepts_143 (((h.2.2.1 c1).1 c9).2 c10))))))))) (fun c9 => (aw_iload dX5_accepts_117 rfl (aw_iconst 4 dX5_accepts_119 (by decide) (aw_icmp_ge 127 dX5_accepts_120 (by decide) (fun c11 => (aw_iconst 0 dX5_accepts_127 (by decide) (aw_goto 143 dX5_accepts_128 (by decide) (aw_iret rfl (by decide) dX5_accepts_143 (((h.2.2.1 c1).2 c9).1 c11))))) (fun c11 => (aw_iconst 1 dX5_accepts_123 (by decide) (aw_goto 143 dX5_accepts_124 (by decide) (aw_iret rfl (by decide) dX5_accepts_143 (((h.2.2.1 c1).2 c9).2 c11)))))))))))) (fun c1 => (aw_iload_n dX5_accepts_144 rfl (aw_if_ne 157 dX5_accepts_145 (by decide) (fun c12 => (aw_iload dX5_accepts_157 rfl (aw_bipush 6 dX5_accepts_159 (by decide) (aw_icmp_ge 168 dX5_accepts_161 (by decide) (fun c13 => (aw_iconst 0 dX5_accepts_168 (by decide) (aw_iret rfl (by decide) dX5_accepts_169 (((h.2.2.2.1 c1).1 c12).1 c13)))) (fun c13 => (aw_iconst 1 dX5_accepts_164 (by decide) (aw_goto 169 dX5_accepts_165 (by decide) (aw_iret rfl (by decide) dX5_accepts_169 (((h.2.2.2.1 c1).1 c12).2 c13))))))))) (fun c12 => (aw_aload_n dX5_accepts_148 rfl (aw_iload dX5_accepts_149 rfl (aw_callVi lkX5_72 ckX4_isAgent (cs_ isSt_44) rfl (d := 2) (by decide) [.inl a4] rfl rfl (Nat.le_of_ble_eq_true rfl) dX5_accepts_151 rfl (Runs.fn ((ct_X4_isAgent isSt_44) ((h.2.2.2.1 c1).2 c12).1) (aw_goto 169 dX5_accepts_154 (by decide) (aw_iret rfl ((h.2.2.2.1 c1).2 c12).2.1 dX5_accepts_169 ((h.2.2.2.1 c1).2 c12).2.2)))))))))) (fun c1 => (aw_iload_n dX5_accepts_170 rfl (aw_if_ne 183 dX5_accepts_171 (by decide) (fun c14 => (aw_aload_n dX5_accepts_183 rfl (aw_iload dX5_accepts_184 rfl (aw_callVi lkX5_68 ckX4_has (cs_ isSt_44) rfl (d := 1) (by decide) [.inl a4] rfl rfl (Nat.le_of_ble_eq_true rfl) dX5_accepts_186 rfl (Runs.fn ((ct_X4_has isSt_44) ((h.2.2.2.2.1 c1).1 c14).1) (aw_if_eq 211 dX5_accepts_189 (by decide) (fun c15 => (aw_iconst 0 dX5_accepts_211 (by decide) (aw_iret rfl (by decide) dX5_accepts_212 (((h.2.2.2.2.1 c1).1 c14).2.1 c15)))) (fun c15 => (aw_aload_n dX5_accepts_192 rfl (aw_aload_n dX5_accepts_193 rfl (aw_getr 3 fkX5_28 fa_1_5 dX5_accepts_194 (aw_iconst 0 dX5_accepts_197 (by decide) (aw_iald aa_3 dX5_accepts_198 (vp_lit 0 (by decide) (by decide)) (aw_iload dX5_accepts_199 rfl (aw_callVi lkX5_78 ckX4_listsReference (cs_ isSt_44) rfl (d := 1) (by decide) [.inl (g 3 0), .inl a4] rfl rfl (Nat.le_of_ble_eq_true rfl) dX5_accepts_201 rfl (Runs.fn ((ct_X4_listsReference isSt_44) (((h.2.2.2.2.1 c1).1 c14).2.2 c15).1) (aw_if_ne 211 dX5_accepts_204 (by decide) (fun c16 => (aw_iconst 0 dX5_accepts_211 (by decide) (aw_iret rfl (by decide) dX5_accepts_212 ((((h.2.2.2.2.1 c1).1 c14).2.2 c15).2.1 c16)))) (fun c16 => (aw_iconst 1 dX5_accepts_207 (by decide) (aw_goto 212 dX5_accepts_208 (by decide) (aw_iret rfl (by decide) dX5_accepts_212 ((((h.2.2.2.2.1 c1).1 c14).2.2 c15).2.2 c16))))))))))))))))))))) (fun c14 => (aw_aload_n dX5_accepts_174 rfl (aw_iload dX5_accepts_175 rfl (aw_callVi lkX5_75 ckX4_canHold (cs_ isSt_44) rfl (d := 2) (by decide) [.inl a4] rfl rfl (Nat.le_of_ble_eq_true rfl) dX5_accepts_177 rfl (Runs.fn ((ct_X4_canHold isSt_44) ((h.2.2.2.2.1 c1).2 c14).1) (aw_goto 212 dX5_accepts_180 (by decide) (aw_iret rfl ((h.2.2.2.2.1 c1).2 c14).2.1 dX5_accepts_212 ((h.2.2.2.2.1 c1).2 c14).2.2)))))))))) (fun c1 => (aw_iconst 0 dX5_accepts_213 (by decide) (aw_iret rfl (by decide) dX5_accepts_214 (h.2.2.2.2.2 c1))))))
theorem ct_X5_accepts {Γ : Gam} {s : St} {g : Mem} {K k a v : Nat} (h : CW 44 s g) (hK : K ≤ 4) (hk : k < nsl K) (ha : K = 4 → k = 1 → g 3 0 = nI a ∧ a < 100) (hv : v < 100) : Runs Γ 3 yX5_accepts iX5_accepts [.inr 1, .inr 44, .inl (nI K), .inl (nI k), .inl (nI v)] g (fun r g' => r = bi (acc s K k a v) ∧ g' = g) := by
  have hn := h.2.n
  have bl : ∀ b b' : Bool, b = b' → (fun (r : Int32) (g' : Mem) => r = bi b' ∧ g' = g) (bi b) g := fun b b' e => ⟨by rw [e], rfl⟩
  unfold nsl at hk
  refine Runs.intro (by decide) rfl (Nat.le_of_ble_eq_true rfl) (sg_X5_accepts_0 s _ _ _ ?_)
  rcases (show K = 0 ∨ K = 1 ∨ K = 2 ∨ K = 3 ∨ K = 4 by omega) with e | e | e | e | e
  · subst e
    rcases (show k = 0 ∨ k = 1 by simp at hk; omega) with e | e
    · subst e
      exact ⟨fun _ => ⟨fun z => absurd rfl z, fun _ => acc_lt (P := fun r g' => r = bi (acc s 0 0 a v) ∧ g' = g) (n := 16) hv (by decide) rfl ⟨rfl, rfl⟩⟩, fun z => absurd z (by decide), fun z => absurd z (by decide), fun z => absurd z (by decide), fun z => absurd z (by decide), fun z => absurd rfl z.1⟩
    · subst e
      exact ⟨fun _ => ⟨fun _ => acc_lt (P := fun r g' => r = bi (acc s 0 1 a v) ∧ g' = g) (n := 6) hv (by decide) rfl ⟨rfl, rfl⟩, fun z => absurd z (by decide)⟩, fun z => absurd z (by decide), fun z => absurd z (by decide), fun z => absurd z (by decide), fun z => absurd z (by decide), fun z => absurd rfl z.1⟩
  · subst e
    rcases (show k = 0 ∨ k = 1 ∨ k = 2 by simp at hk; omega) with e | e | e
    · subst e
      exact ⟨fun z => absurd z (by decide), fun _ => ⟨fun z => absurd rfl z, fun _ => acc_lt (P := fun r g' => r = bi (acc s 1 0 a v) ∧ g' = g) (n := 4) hv (by decide) rfl ⟨rfl, rfl⟩⟩, fun z => absurd z (by decide), fun z => absurd z (by decide), fun z => absurd z (by decide), fun z => absurd rfl z.2.1⟩
    · subst e
      exact ⟨fun z => absurd z (by decide), fun _ => ⟨fun _ => ⟨fun z => absurd rfl z, fun _ => ⟨h, bz_bi _, bl _ _ (inR_nI (by omega))⟩⟩, fun z => absurd z (by decide)⟩, fun z => absurd z (by decide), fun z => absurd z (by decide), fun z => absurd z (by decide), fun z => absurd rfl z.2.1⟩
    · subst e
      exact ⟨fun z => absurd z (by decide), fun _ => ⟨fun _ => ⟨fun _ => acc_lt (P := fun r g' => r = bi (acc s 1 2 a v) ∧ g' = g) (n := 6) hv (by decide) rfl ⟨rfl, rfl⟩, fun z => absurd z (by decide)⟩, fun z => absurd z (by decide)⟩, fun z => absurd z (by decide), fun z => absurd z (by decide), fun z => absurd z (by decide), fun z => absurd rfl z.2.1⟩
  · subst e
    rcases (show k = 0 ∨ k = 1 by simp at hk; omega) with e | e
    · subst e
      exact ⟨fun z => absurd z (by decide), fun z => absurd z (by decide), fun _ => ⟨fun z => absurd rfl z, fun _ => acc_lt (P := fun r g' => r = bi (acc s 2 0 a v) ∧ g' = g) (n := 4) hv (by decide) rfl ⟨rfl, rfl⟩⟩, fun z => absurd z (by decide), fun z => absurd z (by decide), fun z => absurd rfl z.2.2.1⟩
    · subst e
      exact ⟨fun z => absurd z (by decide), fun z => absurd z (by decide), fun _ => ⟨fun _ => acc_lt (P := fun r g' => r = bi (acc s 2 1 a v) ∧ g' = g) (n := 6) hv (by decide) rfl ⟨rfl, rfl⟩, fun z => absurd z (by decide)⟩, fun z => absurd z (by decide), fun z => absurd z (by decide), fun z => absurd rfl z.2.2.1⟩
  · subst e
    rcases (show k = 0 ∨ k = 1 by simp at hk; omega) with e | e
    · subst e
      exact ⟨fun z => absurd z (by decide), fun z => absurd z (by decide), fun z => absurd z (by decide), fun _ => ⟨fun z => absurd rfl z, fun _ => ⟨h, bz_bi _, bl _ _ (kz0 h.2 (by omega))⟩⟩, fun z => absurd z (by decide), fun z => absurd rfl z.2.2.2.1⟩
    · subst e
      exact ⟨fun z => absurd z (by decide), fun z => absurd z (by decide), fun z => absurd z (by decide), fun _ => ⟨fun _ => acc_lt (P := fun r g' => r = bi (acc s 3 1 a v) ∧ g' = g) (n := 6) hv (by decide) rfl ⟨rfl, rfl⟩, fun z => absurd z (by decide)⟩, fun z => absurd z (by decide), fun z => absurd rfl z.2.2.2.1⟩
  · subst e
    rcases (show k = 0 ∨ k = 1 by simp at hk; omega) with e | e
    · subst e
      exact ⟨fun z => absurd z (by decide), fun z => absurd z (by decide), fun z => absurd z (by decide), fun z => absurd z (by decide), fun _ => ⟨fun z => absurd rfl z, fun _ => ⟨h, bz_bi _, bl _ _ (hz_nI h.2 (by omega))⟩⟩, fun z => absurd rfl z.2.2.2.2⟩
    · subst e
      obtain ⟨a1, a2⟩ := ha rfl rfl
      rw [a1, refP_nI h.2 a2 hv, inR_nI (by omega)]
      refine ⟨fun z => absurd z (by decide), fun z => absurd z (by decide), fun z => absurd z (by decide), fun z => absurd z (by decide), fun _ => ⟨fun _ => ⟨h, fun q => ?_, fun q => ⟨h, fun q2 => ?_, fun q2 => ?_⟩⟩, fun z => absurd z (by decide)⟩, fun z => absurd rfl z.2.2.2.2⟩
      · rw [bi_eq0] at q
        exact bl false _ (show false = (decide (v < s 0) && !decide (ff (fun j => decide (s (42 + 2 * j) = a ∧ s (42 + 2 * j + 1) = v)) 0 (s 41) < s 41)) by rw [q]; rfl)
      · rw [bi_ne0] at q q2
        exact bl false _ (show false = (decide (v < s 0) && !decide (ff (fun j => decide (s (42 + 2 * j) = a ∧ s (42 + 2 * j + 1) = v)) 0 (s 41) < s 41)) by rw [q, q2]; rfl)
      · rw [bi_ne0] at q
        rw [bi_eq0] at q2
        exact bl true _ (show true = (decide (v < s 0) && !decide (ff (fun j => decide (s (42 + 2 * j) = a ∧ s (42 + 2 * j + 1) = v)) 0 (s 41) < s 41)) by rw [q, q2]; rfl)
/-- a new object written into the draft's rows -/
def dcl (g : Mem) (n : Nat) (x a t d : Int32) : Mem := up (up (up (up (up g 45 n x) 46 n a) 47 n t) 48 n d) 44 0 (nI (n + 1))
theorem dcl_o {g : Mem} {n k : Nat} {x a t d : Int32} (h : k < 44 ∨ 48 < k) : dcl g n x a t d k = g k := by
  unfold dcl
  rw [up_ne (by omega), up_ne (by omega), up_ne (by omega), up_ne (by omega), up_ne (by omega)]
theorem dcl_44 {g : Mem} {n j : Nat} {x a t d : Int32} : dcl g n x a t d 44 j = if j = 0 then nI (n + 1) else g 44 j := by
  unfold dcl
  split
  · rename_i e; rw [e, up_at]
  · rename_i e; rw [up_nx e, up_ne (by decide), up_ne (by decide), up_ne (by decide), up_ne (by decide)]
theorem dcl_45 {g : Mem} {n j : Nat} {x a t d : Int32} : dcl g n x a t d 45 j = if j = n then x else g 45 j := by
  unfold dcl
  rw [up_ne (by decide), up_ne (by decide), up_ne (by decide), up_ne (by decide)]
  split
  · rename_i e; rw [e, up_at]
  · rename_i e; rw [up_nx e]
theorem dcl_46 {g : Mem} {n j : Nat} {x a t d : Int32} : dcl g n x a t d 46 j = if j = n then a else g 46 j := by
  unfold dcl
  rw [up_ne (by decide), up_ne (by decide), up_ne (by decide)]
  split
  · rename_i e; rw [e, up_at]
  · rename_i e; rw [up_nx e, up_ne (by decide)]
theorem dcl_47 {g : Mem} {n j : Nat} {x a t d : Int32} : dcl g n x a t d 47 j = if j = n then t else g 47 j := by
  unfold dcl
  rw [up_ne (by decide), up_ne (by decide)]
  split
  · rename_i e; rw [e, up_at]
  · rename_i e; rw [up_nx e, up_ne (by decide), up_ne (by decide)]
theorem dcl_48 {g : Mem} {n j : Nat} {x a t d : Int32} : dcl g n x a t d 48 j = if j = n then d else g 48 j := by
  unfold dcl
  rw [up_ne (by decide)]
  split
  · rename_i e; rw [e, up_at]
  · rename_i e; rw [up_nx e, up_ne (by decide), up_ne (by decide), up_ne (by decide)]
theorem sg_X4_declareObject_0 {Γ : Gam} {P : Int32 → Mem → Prop} (b : Nat) (hb : isSt b) (a1 a2 a3 a4 : Int32) {g : Mem} (h : (((g b 0) < 10 → (vp_in (g b 0) 10 ∧ (vp_in ((up g (b + 1) (g b 0).toNatClampNeg a1) b 0) 10 ∧ (vp_in ((up (up g (b + 1) (g b 0).toNatClampNeg a1) (b + 2) ((up g (b + 1) (g b 0).toNatClampNeg a1) b 0).toNatClampNeg a2) b 0) 10 ∧ (vp_in ((up (up (up g (b + 1) (g b 0).toNatClampNeg a1) (b + 2) ((up g (b + 1) (g b 0).toNatClampNeg a1) b 0).toNatClampNeg a2) (b + 3) ((up (up g (b + 1) (g b 0).toNatClampNeg a1) (b + 2) ((up g (b + 1) (g b 0).toNatClampNeg a1) b 0).toNatClampNeg a2) b 0).toNatClampNeg a3) b 0) 10 ∧ P 0 (up (up (up (up (up g (b + 1) (g b 0).toNatClampNeg a1) (b + 2) ((up g (b + 1) (g b 0).toNatClampNeg a1) b 0).toNatClampNeg a2) (b + 3) ((up (up g (b + 1) (g b 0).toNatClampNeg a1) (b + 2) ((up g (b + 1) (g b 0).toNatClampNeg a1) b 0).toNatClampNeg a2) b 0).toNatClampNeg a3) (b + 4) ((up (up (up g (b + 1) (g b 0).toNatClampNeg a1) (b + 2) ((up g (b + 1) (g b 0).toNatClampNeg a1) b 0).toNatClampNeg a2) (b + 3) ((up (up g (b + 1) (g b 0).toNatClampNeg a1) (b + 2) ((up g (b + 1) (g b 0).toNatClampNeg a1) b 0).toNatClampNeg a2) b 0).toNatClampNeg a3) b 0).toNatClampNeg a4) b 0 (((up (up (up (up g (b + 1) (g b 0).toNatClampNeg a1) (b + 2) ((up g (b + 1) (g b 0).toNatClampNeg a1) b 0).toNatClampNeg a2) (b + 3) ((up (up g (b + 1) (g b 0).toNatClampNeg a1) (b + 2) ((up g (b + 1) (g b 0).toNatClampNeg a1) b 0).toNatClampNeg a2) b 0).toNatClampNeg a3) (b + 4) ((up (up (up g (b + 1) (g b 0).toNatClampNeg a1) (b + 2) ((up g (b + 1) (g b 0).toNatClampNeg a1) b 0).toNatClampNeg a2) (b + 3) ((up (up g (b + 1) (g b 0).toNatClampNeg a1) (b + 2) ((up g (b + 1) (g b 0).toNatClampNeg a1) b 0).toNatClampNeg a2) b 0).toNatClampNeg a3) b 0).toNatClampNeg a4) b 0) + 1))))))) ∧ (¬ ((g b 0) < 10) → P 0 g))) : AW Γ 1 iX4_declareObject P 0 [some (.inr b), some (.inl a1), some (.inl a2), some (.inl a3), some (.inl a4)] [] g :=
  (aw_aload_n dX4_declareObject_0 rfl (aw_geti fkX4_9 (fs_0 hb) dX4_declareObject_1 (aw_bipush 10 dX4_declareObject_4 (by decide) (aw_icmp_lt 10 dX4_declareObject_6 (by decide) (fun c1 => (aw_aload_n dX4_declareObject_10 rfl (aw_getr (b + 1) fkX4_15 (fs_1 hb) dX4_declareObject_11 (aw_aload_n dX4_declareObject_14 rfl (aw_geti fkX4_9 (fs_0 hb) dX4_declareObject_15 (aw_iload_n dX4_declareObject_18 rfl (aw_iast (as_1 hb) dX4_declareObject_19 (h.1 c1).1 (aw_aload_n dX4_declareObject_20 rfl (aw_getr (b + 2) fkX4_19 (fs_2 hb) dX4_declareObject_21 (aw_aload_n dX4_declareObject_24 rfl (aw_geti fkX4_9 (fs_0 hb) dX4_declareObject_25 (aw_iload_n dX4_declareObject_28 rfl (aw_iast (as_2 hb) dX4_declareObject_29 (h.1 c1).2.1 (aw_aload_n dX4_declareObject_30 rfl (aw_getr (b + 3) fkX4_22 (fs_3 hb) dX4_declareObject_31 (aw_aload_n dX4_declareObject_34 rfl (aw_geti fkX4_9 (fs_0 hb) dX4_declareObject_35 (aw_iload_n dX4_declareObject_38 rfl (aw_iast (as_3 hb) dX4_declareObject_39 (h.1 c1).2.2.1 (aw_aload_n dX4_declareObject_40 rfl (aw_getr (b + 4) fkX4_25 (fs_4 hb) dX4_declareObject_41 (aw_aload_n dX4_declareObject_44 rfl (aw_geti fkX4_9 (fs_0 hb) dX4_declareObject_45 (aw_iload dX4_declareObject_48 rfl (aw_iast (as_4 hb) dX4_declareObject_50 (h.1 c1).2.2.2.1 (aw_aload_n dX4_declareObject_51 rfl (aw_dup dX4_declareObject_52 (aw_geti fkX4_9 (fs_0 hb) dX4_declareObject_53 (aw_iconst 1 dX4_declareObject_56 (by decide) (aw_iadd dX4_declareObject_57 (aw_putf fpX4_9 (fs_0 hb) (vp_nar_int _) rfl dX4_declareObject_58 (aw_vret rfl dX4_declareObject_61 (h.1 c1).2.2.2.2)))))))))))))))))))))))))))))))) (fun c1 => (aw_vret rfl dX4_declareObject_9 (h.2 c1)))))))
theorem ct_X4_declare {Γ : Gam} {s : St} {g : Mem} (hc : CW 44 s g) (h : s 0 < 10) {x a t d : Int32} : Runs Γ 1 yX4_declareObject iX4_declareObject [.inr 44, .inl x, .inl a, .inl t, .inl d] g (fun r g' => r = 0 ∧ g' = dcl g (s 0) x a t d) := by
  have e : g 44 0 = nI (s 0) := hc.1.1
  have e1 : ∀ (g' : Mem) i v, up g' (44 + 1) i v 44 0 = g' 44 0 := fun g' i v => by rw [up_ne (by decide)]
  have e2 : ∀ (g' : Mem) i v, up g' (44 + 2) i v 44 0 = g' 44 0 := fun g' i v => by rw [up_ne (by decide)]
  have e3 : ∀ (g' : Mem) i v, up g' (44 + 3) i v 44 0 = g' 44 0 := fun g' i v => by rw [up_ne (by decide)]
  have e4 : ∀ (g' : Mem) i v, up g' (44 + 4) i v 44 0 = g' 44 0 := fun g' i v => by rw [up_ne (by decide)]
  refine Runs.intro (by decide) rfl (Nat.le_of_ble_eq_true rfl) (sg_X4_declareObject_0 44 isSt_44 x a t d ?_)
  simp only [e1, e2, e3, e4, e, nI_1, ix_nI (show s 0 < 2 ^ 31 by omega)]
  exact ⟨fun _ => ⟨vp_nI h (by decide), vp_nI h (by decide), vp_nI h (by decide), vp_nI h (by decide), trivial, rfl⟩, fun z => absurd (nI_lt h (by decide)) z⟩
theorem CS.adO {s : St} {g : Mem} (hw : WF s) (hc : CS 44 s g) (h : s 0 < 10) {K A B G : Nat} {a t : Int32} (ha : K ≠ 3 → a = nI A) (ht1 : K = 1 → t = nI B) (ht3 : K = 3 → t = nI A) : CS 44 (addO s K A B G) (dcl g (s 0) (nI K) a t (nI G)) := by
  obtain ⟨a0, a1, a2, a3, a4⟩ := addO_at h (k := K) (a := A) (b := B) (d := G)
  have hr := hw.nr
  have hq := hw.nq
  have e41 : addO s K A B G 41 = s 41 := addO_ne (by omega) (by omega) (by omega) (by omega) (by omega)
  have e62 : addO s K A B G 62 = s 62 := addO_ne (by omega) (by omega) (by omega) (by omega) (by omega)
  have n1 : ∀ i, i < s 0 → addO s K A B G (1 + i) = s (1 + i) := fun i hi => addO_ne (by omega) (by omega) (by omega) (by omega) (by omega)
  have n2 : ∀ i, i < s 0 → addO s K A B G (11 + i) = s (11 + i) := fun i hi => addO_ne (by omega) (by omega) (by omega) (by omega) (by omega)
  have n3 : ∀ i, i < s 0 → addO s K A B G (21 + i) = s (21 + i) := fun i hi => addO_ne (by omega) (by omega) (by omega) (by omega) (by omega)
  have n4 : ∀ i, i < s 0 → addO s K A B G (31 + i) = s (31 + i) := fun i hi => addO_ne (by omega) (by omega) (by omega) (by omega) (by omega)
  unfold CS at hc ⊢
  simp only [Nat.reduceAdd] at hc ⊢
  obtain ⟨c1, c2, c3, c4, c5, c6, c7, c8, c9, c10⟩ := hc
  rw [a0, e41, e62]
  have sp : ∀ i, i < s 0 + 1 → i < s 0 ∨ i = s 0 := fun i hi => by omega
  refine ⟨by rw [dcl_44, if_pos rfl], fun i hi => ?_, fun i hi hk => ?_, fun i hi => ?_, fun i hi => ?_, by rw [dcl_44, if_neg (by decide)]; exact c6, fun k hk => ?_, by rw [dcl_44, if_neg (by decide)]; exact c8, fun k hk => ?_, fun i hi => ?_⟩
  · rw [dcl_45]
    rcases sp i hi with q | q
    · rw [if_neg (by omega), n1 i q]; exact c2 i q
    · rw [if_pos q, q, a1]
  · rw [dcl_46]
    rcases sp i hi with q | q
    · rw [n1 i q] at hk
      rw [if_neg (by omega), n2 i q]; exact c3 i q hk
    · rw [q, a1] at hk
      rw [if_pos q, q, a2]; exact ha hk
  · rw [dcl_47]
    rcases sp i hi with q | q
    · rw [if_neg (by omega), n1 i q, n2 i q, n3 i q]; exact c4 i q
    · rw [if_pos q, q, a1, a2, a3]; exact ⟨ht1, ht3⟩
  · rw [dcl_48]
    rcases sp i hi with q | q
    · rw [if_neg (by omega), n4 i q]; exact c5 i q
    · rw [if_pos q, q, a4]
  · rw [dcl_o (by omega), dcl_o (by omega), addO_ne (show 42 + 2 * k ≠ 0 by omega) (by omega) (by omega) (by omega) (by omega), addO_ne (show 42 + 2 * k + 1 ≠ 0 by omega) (by omega) (by omega) (by omega) (by omega)]
    exact c7 k hk
  · rw [dcl_o (by omega), dcl_o (by omega), addO_ne (show 63 + 2 * k ≠ 0 by omega) (by omega) (by omega) (by omega) (by omega), addO_ne (show 63 + 2 * k + 1 ≠ 0 by omega) (by omega) (by omega) (by omega) (by omega)]
    exact c9 k hk
  · rw [dcl_o (by omega), addO_ne (show 71 + i ≠ 0 by omega) (by omega) (by omega) (by omega) (by omega)]
    exact c10 i hi
theorem CS.refsD {s s' : St} {g g' : Mem} (hw : WF s) (h : CS 44 s g) (hs : ∀ j, (j < 41 ∨ 62 ≤ j) → s' j = s j) (hg : ∀ k, k ≠ 44 → k ≠ 49 → k ≠ 50 → g' k = g k) (h0 : ∀ j, j ≠ 5 → g' 44 j = g 44 j) (h5 : g' 44 5 = nI (s' 41)) (hk : ∀ k, k < s' 41 → g' 49 k = nI (s' (42 + 2 * k)) ∧ g' 50 k = nI (s' (42 + 2 * k + 1))) : CS 44 s' g' := by
  have hn := hw.n
  have hq := hw.nq
  obtain ⟨c1, c2, c3, c4, c5, c6, c7, c8, c9, c10⟩ := h
  unfold CS
  rw [h0 0 (by decide), h0 8 (by decide), hg (44 + 1) (by decide) (by decide) (by decide), hg (44 + 2) (by decide) (by decide) (by decide), hg (44 + 3) (by decide) (by decide) (by decide), hg (44 + 4) (by decide) (by decide) (by decide), hg (44 + 7) (by decide) (by decide) (by decide), hg (44 + 8) (by decide) (by decide) (by decide), hg (44 + 9) (by decide) (by decide) (by decide), hs 0 (by omega), hs 62 (by omega)]
  refine ⟨c1, fun j hj => ?_, fun j hj hk2 => ?_, fun j hj => ?_, fun j hj => ?_, h5, hk, c8, fun j hj => ?_, fun j hj => ?_⟩
  · rw [hs _ (by omega)]; exact c2 j hj
  · rw [hs _ (by omega)] at hk2 ⊢; exact c3 j hj hk2
  · rw [hs _ (by omega), hs _ (by omega), hs _ (by omega)]; exact c4 j hj
  · rw [hs _ (by omega)]; exact c5 j hj
  · rw [hs _ (by omega), hs _ (by omega)]; exact c9 j hj
  · rw [hs _ (by omega)]; exact c10 j hj
theorem ct_X4_listReferenceD {Γ : Gam} {s : St} {g : Mem} {h o : Nat} (hc : CW 44 s g) (hr : s 41 < 10) : Runs Γ 1 yX4_listReference iX4_listReference [.inr 44, .inl (nI h), .inl (nI o)] g (fun _ g' => CS 44 (addR s h o) g' ∧ ∀ k, k ≠ 44 → k ≠ 49 → k ≠ 50 → g' k = g k) := by
  obtain ⟨c1, c2, c3, c4, c5, c6, c7, c8, c9, c10⟩ := hc.1
  refine Runs.intro (by decide) rfl (Nat.le_of_ble_eq_true rfl) (sg_X4_listReference_0 44 isSt_44 _ _ ?_)
  rw [up_ne (show 44 ≠ 44 + 6 by decide), up_ne (show 44 ≠ 44 + 5 by decide), c6, nI_1, ix_nI (by omega), show (10 : Int32) = nI 10 from rfl, nI_ltI (by omega) (by decide)]
  refine ⟨fun _ => ⟨vp_nI hr (by decide), vp_nI hr (by decide), ?_, fun k k1 k2 k3 => by rw [up_ne k1, up_ne k3, up_ne k2]⟩, fun c => absurd hr c⟩
  refine CS.refsD hc.2 hc.1 (fun j hj => addR_out hr hj) (fun k k1 k2 k3 => by rw [up_ne k1, up_ne k3, up_ne k2]) (fun j hj => by rw [up_nx hj, up_ne (by decide), up_ne (by decide)]) (by rw [up_at, addR_n]) (fun k hk => ?_)
  rw [addR_n] at hk
  rw [up_ne (show 49 ≠ 44 by decide), up_ne (show 49 ≠ 44 + 6 by decide), up_ne (show 50 ≠ 44 by decide)]
  show up g 49 (s 41) (nI h) 49 k = _ ∧ up (up g 49 (s 41) (nI h)) 50 (s 41) (nI o) 50 k = _
  rcases Nat.lt_or_ge k (s 41) with q | q
  · rw [(addR_old q).1, (addR_old q).2, up_nx (by omega), up_nx (by omega), up_ne (by decide)]; exact c7 k q
  · have e : k = s 41 := by omega
    subst e
    rw [addR_new.1, addR_new.2, up_at, up_at]; exact ⟨rfl, rfl⟩
theorem sg_X5_perform_0 {Γ : Gam} {P : Int32 → Mem → Prop}  (a2 : Int32) {g : Mem} (h : ((a2 = 0 → AW Γ 2 iX5_perform P 36 [some (.inr 1), some (.inr 44), some (.inl a2)] [] g) ∧ (a2 = 1 → (Runs Γ 1 yX4_declareObject iX4_declareObject [.inr 44, .inl 1, .inl (g 3 0), .inl (g 3 1), .inl (g 3 2)] g (fun r1 g1 => P 0 g1))) ∧ (a2 = 2 → AW Γ 2 iX5_perform P 36 [some (.inr 1), some (.inr 44), some (.inl a2)] [] g) ∧ (a2 = 3 → (Runs Γ 1 yX4_declareObject iX4_declareObject [.inr 44, .inl 3, .inl 0, .inl (g 3 0), .inl (g 3 1)] g (fun r2 g2 => P 0 g2))) ∧ (a2 = 4 → (Runs Γ 1 yX4_listReference iX4_listReference [.inr 44, .inl (g 3 0), .inl (g 3 1)] g (fun r3 g3 => P 0 g3))) ∧ ((¬ a2 = 0 ∧ ¬ a2 = 1 ∧ ¬ a2 = 2 ∧ ¬ a2 = 3 ∧ ¬ a2 = 4) → P 0 g))) : AW Γ 2 iX5_perform P 0 [some (.inr 1), some (.inr 44), some (.inl a2)] [] g :=
  (aw_iload_n dX5_perform_0 rfl (aw_tsw 36 57 36 83 104 123 dX5_perform_1 (by decide) (by decide) (by decide) (by decide) (by decide) (by decide) (fun c1 => (aw_mask [true, true, true] rfl (h.1 c1))) (fun c1 => (aw_aload_n dX5_perform_57 rfl (aw_iconst 1 dX5_perform_58 (by decide) (aw_aload_n dX5_perform_59 rfl (aw_getr 3 fkX5_28 fa_1_5 dX5_perform_60 (aw_iconst 0 dX5_perform_63 (by decide) (aw_iald aa_3 dX5_perform_64 (vp_lit 0 (by decide) (by decide)) (aw_aload_n dX5_perform_65 rfl (aw_getr 3 fkX5_28 fa_1_5 dX5_perform_66 (aw_iconst 1 dX5_perform_69 (by decide) (aw_iald aa_3 dX5_perform_70 (vp_lit 1 (by decide) (by decide)) (aw_aload_n dX5_perform_71 rfl (aw_getr 3 fkX5_28 fa_1_5 dX5_perform_72 (aw_iconst 2 dX5_perform_75 (by decide) (aw_iald aa_3 dX5_perform_76 (vp_lit 2 (by decide) (by decide)) (aw_callVv lkX5_82 ckX4_declareObject (cs_ isSt_44) rfl (d := 1) (by decide) [.inl 1, .inl (g 3 0), .inl (g 3 1), .inl (g 3 2)] rfl rfl (Nat.le_of_ble_eq_true rfl) dX5_perform_77 rfl (Runs.mono (h.2.1 c1) (fun r1 g1 h1_ => (aw_goto 123 dX5_perform_80 (by decide) (aw_vret rfl dX5_perform_123 h1_)))))))))))))))))))) (fun c1 => (aw_mask [true, true, true] rfl (h.2.2.1 c1))) (fun c1 => (aw_aload_n dX5_perform_83 rfl (aw_iconst 3 dX5_perform_84 (by decide) (aw_iconst 0 dX5_perform_85 (by decide) (aw_aload_n dX5_perform_86 rfl (aw_getr 3 fkX5_28 fa_1_5 dX5_perform_87 (aw_iconst 0 dX5_perform_90 (by decide) (aw_iald aa_3 dX5_perform_91 (vp_lit 0 (by decide) (by decide)) (aw_aload_n dX5_perform_92 rfl (aw_getr 3 fkX5_28 fa_1_5 dX5_perform_93 (aw_iconst 1 dX5_perform_96 (by decide) (aw_iald aa_3 dX5_perform_97 (vp_lit 1 (by decide) (by decide)) (aw_callVv lkX5_82 ckX4_declareObject (cs_ isSt_44) rfl (d := 1) (by decide) [.inl 3, .inl 0, .inl (g 3 0), .inl (g 3 1)] rfl rfl (Nat.le_of_ble_eq_true rfl) dX5_perform_98 rfl (Runs.mono (h.2.2.2.1 c1) (fun r2 g2 h2_ => (aw_goto 123 dX5_perform_101 (by decide) (aw_vret rfl dX5_perform_123 h2_))))))))))))))))) (fun c1 => (aw_aload_n dX5_perform_104 rfl (aw_aload_n dX5_perform_105 rfl (aw_getr 3 fkX5_28 fa_1_5 dX5_perform_106 (aw_iconst 0 dX5_perform_109 (by decide) (aw_iald aa_3 dX5_perform_110 (vp_lit 0 (by decide) (by decide)) (aw_aload_n dX5_perform_111 rfl (aw_getr 3 fkX5_28 fa_1_5 dX5_perform_112 (aw_iconst 1 dX5_perform_115 (by decide) (aw_iald aa_3 dX5_perform_116 (vp_lit 1 (by decide) (by decide)) (aw_callVv lkX5_86 ckX4_listReference (cs_ isSt_44) rfl (d := 1) (by decide) [.inl (g 3 0), .inl (g 3 1)] rfl rfl (Nat.le_of_ble_eq_true rfl) dX5_perform_117 rfl (Runs.mono (h.2.2.2.2.1 c1) (fun r3 g3 h3_ => (aw_goto 123 dX5_perform_120 (by decide) (aw_vret rfl dX5_perform_123 h3_))))))))))))))) (fun c1 => (aw_vret rfl dX5_perform_123 (h.2.2.2.2.2 c1)))))
theorem sg_X5_perform_36 {Γ : Gam} {P : Int32 → Mem → Prop}  (a2 : Int32) {g : Mem} (h : (Runs Γ 1 yX4_declareObject iX4_declareObject [.inr 44, .inl a2, .inl (g 3 0), .inl 0, .inl (g 3 1)] g (fun r1 g1 => P 0 g1))) : AW Γ 2 iX5_perform P 36 [some (.inr 1), some (.inr 44), some (.inl a2)] [] g :=
  (aw_aload_n dX5_perform_36 rfl (aw_iload_n dX5_perform_37 rfl (aw_aload_n dX5_perform_38 rfl (aw_getr 3 fkX5_28 fa_1_5 dX5_perform_39 (aw_iconst 0 dX5_perform_42 (by decide) (aw_iald aa_3 dX5_perform_43 (vp_lit 0 (by decide) (by decide)) (aw_iconst 0 dX5_perform_44 (by decide) (aw_aload_n dX5_perform_45 rfl (aw_getr 3 fkX5_28 fa_1_5 dX5_perform_46 (aw_iconst 1 dX5_perform_49 (by decide) (aw_iald aa_3 dX5_perform_50 (vp_lit 1 (by decide) (by decide)) (aw_callVv lkX5_82 ckX4_declareObject (cs_ isSt_44) rfl (d := 1) (by decide) [.inl a2, .inl (g 3 0), .inl 0, .inl (g 3 1)] rfl rfl (Nat.le_of_ble_eq_true rfl) dX5_perform_51 rfl (Runs.mono h (fun r1 g1 h1_ => (aw_goto 123 dX5_perform_54 (by decide) (aw_vret rfl dX5_perform_123 h1_))))))))))))))))
theorem ct_X5_perform {Γ : Gam} {s : St} {g : Mem} {K : Nat} {nn : Nat → Nat} (h : CW 44 s g) (hK : K ≤ 4) (hf : full s K = false) (h0 : g 3 0 = nI (nn 0)) (h1 : g 3 1 = nI (nn 1)) (h2 : K = 1 → g 3 2 = nI (nn 2)) : Runs Γ 2 yX5_perform iX5_perform [.inr 1, .inr 44, .inl (nI K)] g (fun _ g' => CS 44 (prf s K nn) g' ∧ ∀ k, (k < 44 ∨ 54 ≤ k) → g' k = g k) := by
  obtain ⟨f1, f2⟩ := full_F hf
  have go : ∀ (A B G : Nat) (a t d : Int32), (K ≠ 3 → a = nI A) → (K = 1 → t = nI B) → (K = 3 → t = nI A) → d = nI G → K ≠ 4 → prf s K nn = addO s K A B G → Runs Γ 1 yX4_declareObject iX4_declareObject [.inr 44, .inl (nI K), .inl a, .inl t, .inl d] g (fun _ g' => CS 44 (prf s K nn) g' ∧ ∀ k, (k < 44 ∨ 54 ≤ k) → g' k = g k) := by
    intro A B G a t d x1 x2 x3 x4 x5 x6
    refine Runs.fn (ct_X4_declare h (f2 x5)) ⟨?_, fun k hk => dcl_o (by omega)⟩
    rw [x6, x4]
    exact CS.adO h.2 h.1 (f2 x5) x1 x2 x3
  refine Runs.intro (by decide) rfl (Nat.le_of_ble_eq_true rfl) (sg_X5_perform_0 _ ?_)
  rcases (show K = 0 ∨ K = 1 ∨ K = 2 ∨ K = 3 ∨ K = 4 by omega) with e | e | e | e | e
  · subst e
    exact ⟨fun _ => sg_X5_perform_36 _ (go (nn 0) 0 (nn 1) _ _ _ (fun _ => h0) (fun z => absurd z (by decide)) (fun z => absurd z (by decide)) h1 (by decide) rfl), fun z => absurd z (by decide), fun z => absurd z (by decide), fun z => absurd z (by decide), fun z => absurd z (by decide), fun z => absurd rfl z.1⟩
  · subst e
    exact ⟨fun z => absurd z (by decide), fun _ => go (nn 0) (nn 1) (nn 2) _ _ _ (fun _ => h0) (fun _ => h1) (fun z => absurd z (by decide)) (h2 rfl) (by decide) rfl, fun z => absurd z (by decide), fun z => absurd z (by decide), fun z => absurd z (by decide), fun z => absurd rfl z.2.1⟩
  · subst e
    exact ⟨fun z => absurd z (by decide), fun z => absurd z (by decide), fun _ => sg_X5_perform_36 _ (go (nn 0) 0 (nn 1) _ _ _ (fun _ => h0) (fun z => absurd z (by decide)) (fun z => absurd z (by decide)) h1 (by decide) rfl), fun z => absurd z (by decide), fun z => absurd z (by decide), fun z => absurd rfl z.2.2.1⟩
  · subst e
    exact ⟨fun z => absurd z (by decide), fun z => absurd z (by decide), fun z => absurd z (by decide), fun _ => go (nn 0) 0 (nn 1) _ _ _ (fun z => absurd rfl z) (fun z => absurd z (by decide)) (fun _ => h0) h1 (by decide) rfl, fun z => absurd z (by decide), fun z => absurd rfl z.2.2.2.1⟩
  · subst e
    refine ⟨fun z => absurd z (by decide), fun z => absurd z (by decide), fun z => absurd z (by decide), fun z => absurd z (by decide), fun _ => ?_, fun z => absurd rfl z.2.2.2.2⟩
    rw [h0, h1]
    exact (ct_X4_listReferenceD (h := nn 0) (o := nn 1) h (f1 rfl)).mono (fun r g' q => ⟨q.1, fun k hk => q.2 k (by omega) (by omega) (by omega)⟩)
