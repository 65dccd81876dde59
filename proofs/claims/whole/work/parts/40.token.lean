/-! The tokens of the text; the class's reader of them. -/
/-- the type of a character: 1 letter, 2 digit, 3 semicolon, 4 else -/
def ty (ch : Nat) : Nat := if 97 ≤ ch ∧ ch ≤ 122 then 1 else if 48 ≤ ch ∧ ch ≤ 57 then 2 else if ch = 59 then 3 else 4
/-- the token at or behind i: its first offset, its type (0 at the end), the offset behind it -/
def tF (L : Nat) (c : Nat → Nat) (i : Nat) : Nat := ff (fun j => !decide (c j = 32)) i (L - i)
def tT (L : Nat) (c : Nat → Nat) (i : Nat) : Nat := if tF L c i < L then ty (c (tF L c i)) else 0
def tB (L : Nat) (c : Nat → Nat) (i : Nat) : Nat := if tF L c i < L then (if tT L c i = 1 ∨ tT L c i = 2 then ff (fun j => !decide (ty (c j) = tT L c i)) (tF L c i + 1) (L - (tF L c i + 1)) else tF L c i + 1) else tF L c i
theorem ty_le (ch : Nat) : 1 ≤ ty ch ∧ ty ch ≤ 4 := by
  unfold ty
  split
  · omega
  · split
    · omega
    · split <;> omega
theorem tF_le {L : Nat} {c : Nat → Nat} {i : Nat} (h : i ≤ L) : i ≤ tF L c i ∧ tF L c i ≤ L := by
  have := ff_bounds (fun j => !decide (c j = 32)) (L - i) i
  unfold tF
  omega
theorem tB_le {L : Nat} {c : Nat → Nat} {i : Nat} (h : i ≤ L) : tF L c i ≤ tB L c i ∧ tB L c i ≤ L ∧ (tF L c i < L → tF L c i < tB L c i) := by
  have a := tF_le (c := c) h
  unfold tB
  split
  · split
    · have := ff_bounds (fun j => !decide (ty (c j) = tT L c i)) (L - (tF L c i + 1)) (tF L c i + 1)
      omega
    · omega
  · omega
theorem sg_X5_typeOf_0 {Γ : Gam} {P : Int32 → Mem → Prop}  (a0 : Int32) {g : Mem} (h : ((a0 < 97 → AW Γ 1 iX5_typeOf P 14 [some (.inl a0)] [] g) ∧ (¬ (a0 < 97) → ((122 < a0 → AW Γ 1 iX5_typeOf P 14 [some (.inl a0)] [] g) ∧ (¬ (122 < a0) → P 1 g))))) : AW Γ 1 iX5_typeOf P 0 [some (.inl a0)] [] g :=
  (aw_iload_n dX5_typeOf_0 rfl (aw_bipush 97 dX5_typeOf_1 (by decide) (aw_icmp_lt 14 dX5_typeOf_3 (by decide) (fun c1 => (aw_mask [true] rfl (h.1 c1))) (fun c1 => (aw_iload_n dX5_typeOf_6 rfl (aw_bipush 122 dX5_typeOf_7 (by decide) (aw_icmp_gt 14 dX5_typeOf_9 (by decide) (fun c2 => (aw_mask [true] rfl ((h.2 c1).1 c2))) (fun c2 => (aw_iconst 1 dX5_typeOf_12 (by decide) (aw_iret rfl (vp_nar_int _) dX5_typeOf_13 ((h.2 c1).2 c2)))))))))))
theorem sg_X5_typeOf_14 {Γ : Gam} {P : Int32 → Mem → Prop}  (a0 : Int32) {g : Mem} (h : ((a0 < 48 → ((¬ a0 = 59 → P 4 g) ∧ (a0 = 59 → P 3 g))) ∧ (¬ (a0 < 48) → ((57 < a0 → ((¬ a0 = 59 → P 4 g) ∧ (a0 = 59 → P 3 g))) ∧ (¬ (57 < a0) → P 2 g))))) : AW Γ 1 iX5_typeOf P 14 [some (.inl a0)] [] g :=
  (aw_iload_n dX5_typeOf_14 rfl (aw_bipush 48 dX5_typeOf_15 (by decide) (aw_icmp_lt 28 dX5_typeOf_17 (by decide) (fun c1 => (aw_iload_n dX5_typeOf_28 rfl (aw_bipush 59 dX5_typeOf_29 (by decide) (aw_icmp_ne 38 dX5_typeOf_31 (by decide) (fun c2 => (aw_iconst 4 dX5_typeOf_38 (by decide) (aw_iret rfl (vp_nar_int _) dX5_typeOf_39 ((h.1 c1).1 c2)))) (fun c2 => (aw_iconst 3 dX5_typeOf_34 (by decide) (aw_goto 39 dX5_typeOf_35 (by decide) (aw_iret rfl (vp_nar_int _) dX5_typeOf_39 ((h.1 c1).2 c2))))))))) (fun c1 => (aw_iload_n dX5_typeOf_20 rfl (aw_bipush 57 dX5_typeOf_21 (by decide) (aw_icmp_gt 28 dX5_typeOf_23 (by decide) (fun c3 => (aw_iload_n dX5_typeOf_28 rfl (aw_bipush 59 dX5_typeOf_29 (by decide) (aw_icmp_ne 38 dX5_typeOf_31 (by decide) (fun c4 => (aw_iconst 4 dX5_typeOf_38 (by decide) (aw_iret rfl (vp_nar_int _) dX5_typeOf_39 (((h.2 c1).1 c3).1 c4)))) (fun c4 => (aw_iconst 3 dX5_typeOf_34 (by decide) (aw_goto 39 dX5_typeOf_35 (by decide) (aw_iret rfl (vp_nar_int _) dX5_typeOf_39 (((h.2 c1).1 c3).2 c4))))))))) (fun c3 => (aw_iconst 2 dX5_typeOf_26 (by decide) (aw_iret rfl (vp_nar_int _) dX5_typeOf_27 ((h.2 c1).2 c3)))))))))))
theorem ct_X5_typeOf {Γ : Gam} {ch : Nat} (h : ch < 2 ^ 31) {g : Mem} : Runs Γ 1 yX5_typeOf iX5_typeOf [.inl (nI ch)] g (fun r g' => r = nI (ty ch) ∧ g' = g) := by
  have t14 : ¬ (97 ≤ ch ∧ ch ≤ 122) → AW Γ 1 iX5_typeOf (fun r g' => r = nI (ty ch) ∧ g' = g) 14 [some (.inl (nI ch))] [] g := by
    intro n1
    refine sg_X5_typeOf_14 _ ?_
    rw [show (48 : Int32) = nI 48 from rfl, show (57 : Int32) = nI 57 from rfl, show (59 : Int32) = nI 59 from rfl, nI_ltI h (by decide), nI_ltI (by decide) h, nI_eq h (by decide)]
    unfold ty
    rw [if_neg n1]
    refine ⟨fun c1 => ?_, fun c1 => ⟨fun c2 => ?_, fun c2 => ?_⟩⟩
    · rw [if_neg (by omega)]
      exact ⟨fun c3 => by rw [if_neg c3]; exact ⟨rfl, rfl⟩, fun c3 => by rw [if_pos c3]; exact ⟨rfl, rfl⟩⟩
    · rw [if_neg (by omega)]
      exact ⟨fun c3 => by rw [if_neg c3]; exact ⟨rfl, rfl⟩, fun c3 => by rw [if_pos c3]; exact ⟨rfl, rfl⟩⟩
    · rw [if_pos (by omega)]; exact ⟨rfl, rfl⟩
  refine Runs.intro (by decide) rfl (Nat.le_of_ble_eq_true rfl) (sg_X5_typeOf_0 _ ?_)
  rw [show (97 : Int32) = nI 97 from rfl, show (122 : Int32) = nI 122 from rfl, nI_ltI h (by decide), nI_ltI (by decide) h]
  refine ⟨fun c1 => t14 (by omega), fun c1 => ⟨fun c2 => t14 (by omega), fun c2 => ?_⟩⟩
  unfold ty
  rw [if_pos (by omega)]; exact ⟨rfl, rfl⟩
theorem sg_X5_advance_0 {Γ : Gam} {P : Int32 → Mem → Prop}  {g : Mem} (h : AW Γ 2 iX5_advance P 8 [some (.inr 1)] [] (up g 1 3 (g 1 4))) : AW Γ 2 iX5_advance P 0 [some (.inr 1)] [] g :=
  (aw_aload_n dX5_advance_0 rfl (aw_aload_n dX5_advance_1 rfl (aw_geti fkX5_25 fa_1_4 dX5_advance_2 (aw_putf fpX5_22 fa_1_3 (vp_nar_int _) rfl dX5_advance_5 (aw_mask [true] rfl h)))))
theorem sg_X5_advance_8 {Γ : Gam} {P : Int32 → Mem → Prop}  {g : Mem} (h : (((g 1 1) ≤ (g 1 3) → AW Γ 2 iX5_advance P 46 [some (.inr 1)] [] g) ∧ (¬ ((g 1 1) ≤ (g 1 3)) → (vp_in (g 1 3) 160 ∧ ((¬ (g 2 (g 1 3).toNatClampNeg) = 32 → AW Γ 2 iX5_advance P 46 [some (.inr 1)] [] g) ∧ ((g 2 (g 1 3).toNatClampNeg) = 32 → AW Γ 2 iX5_advance P 8 [some (.inr 1)] [] (up g 1 3 ((g 1 3) + 1)))))))) : AW Γ 2 iX5_advance P 8 [some (.inr 1)] [] g :=
  (aw_aload_n dX5_advance_8 rfl (aw_geti fkX5_22 fa_1_3 dX5_advance_9 (aw_aload_n dX5_advance_12 rfl (aw_geti fkX5_15 fa_1_1 dX5_advance_13 (aw_icmp_ge 46 dX5_advance_16 (by decide) (fun c1 => (aw_mask [true] rfl (h.1 c1))) (fun c1 => (aw_aload_n dX5_advance_19 rfl (aw_getr 2 fkX5_9 fa_1_0 dX5_advance_20 (aw_aload_n dX5_advance_23 rfl (aw_geti fkX5_22 fa_1_3 dX5_advance_24 (aw_iald aa_2 dX5_advance_27 (h.2 c1).1 (aw_bipush 32 dX5_advance_28 (by decide) (aw_icmp_ne 46 dX5_advance_30 (by decide) (fun c2 => (aw_mask [true] rfl ((h.2 c1).2.1 c2))) (fun c2 => (aw_aload_n dX5_advance_33 rfl (aw_dup dX5_advance_34 (aw_geti fkX5_22 fa_1_3 dX5_advance_35 (aw_iconst 1 dX5_advance_38 (by decide) (aw_iadd dX5_advance_39 (aw_putf fpX5_22 fa_1_3 (vp_nar_int _) rfl dX5_advance_40 (aw_goto 8 dX5_advance_43 (by decide) (aw_mask [true] rfl ((h.2 c1).2.2 c2)))))))))))))))))))))))
theorem sg_X5_advance_46 {Γ : Gam} {P : Int32 → Mem → Prop}  {g : Mem} (h : (((g 1 3) < (g 1 1) → (vp_in (g 1 3) 160 ∧ (Runs Γ 1 yX5_typeOf iX5_typeOf [.inl (g 2 (g 1 3).toNatClampNeg)] (up g 1 4 (g 1 3)) (fun r1 g1 => ((r1 = 1 → AW Γ 2 iX5_advance P 114 [some (.inr 1)] [] (up (up g1 1 2 r1) 1 4 ((g1 1 4) + 1))) ∧ (¬ r1 = 1 → ((r1 = 2 → AW Γ 2 iX5_advance P 114 [some (.inr 1)] [] (up (up g1 1 2 r1) 1 4 ((g1 1 4) + 1))) ∧ (¬ r1 = 2 → P 0 (up (up g1 1 2 r1) 1 4 ((g1 1 4) + 1)))))))))) ∧ (¬ ((g 1 3) < (g 1 1)) → P 0 (up (up g 1 4 (g 1 3)) 1 2 0)))) : AW Γ 2 iX5_advance P 46 [some (.inr 1)] [] g :=
  (aw_aload_n dX5_advance_46 rfl (aw_aload_n dX5_advance_47 rfl (aw_geti fkX5_22 fa_1_3 dX5_advance_48 (aw_putf fpX5_25 fa_1_4 (vp_nar_int _) rfl dX5_advance_51 (aw_aload_n dX5_advance_54 rfl (aw_geti fkX5_22 fa_1_3 dX5_advance_55 (aw_aload_n dX5_advance_58 rfl (aw_geti fkX5_15 fa_1_1 dX5_advance_59 (aw_icmp_lt 71 dX5_advance_62 (by decide) (fun c1 => (aw_aload_n dX5_advance_71 rfl (aw_aload_n dX5_advance_72 rfl (aw_getr 2 fkX5_9 fa_1_0 dX5_advance_73 (aw_aload_n dX5_advance_76 rfl (aw_geti fkX5_22 fa_1_3 dX5_advance_77 (aw_iald aa_2 dX5_advance_80 (h.1 c1).1 (aw_callSi lkX5_112 ckX5_typeOf (d := 1) (by decide) [.inl (g 2 (g 1 3).toNatClampNeg)] rfl rfl (Nat.le_of_ble_eq_true rfl) dX5_advance_81 rfl (Runs.mono (h.1 c1).2 (fun r1 g1 h1_ => (aw_putf fpX5_19 fa_1_2 (vp_nar_int _) rfl dX5_advance_84 (aw_aload_n dX5_advance_87 rfl (aw_dup dX5_advance_88 (aw_geti fkX5_25 fa_1_4 dX5_advance_89 (aw_iconst 1 dX5_advance_92 (by decide) (aw_iadd dX5_advance_93 (aw_putf fpX5_25 fa_1_4 (vp_nar_int _) rfl dX5_advance_94 (aw_aload_n dX5_advance_97 rfl (aw_geti fkX5_19 fa_1_2 dX5_advance_98 (aw_iconst 1 dX5_advance_101 (by decide) (aw_icmp_eq 114 dX5_advance_102 (by decide) (fun c2 => (aw_mask [true] rfl (h1_.1 c2))) (fun c2 => (aw_aload_n dX5_advance_105 rfl (aw_geti fkX5_19 fa_1_2 dX5_advance_106 (aw_iconst 2 dX5_advance_109 (by decide) (aw_icmp_eq 114 dX5_advance_110 (by decide) (fun c3 => (aw_mask [true] rfl ((h1_.2 c2).1 c3))) (fun c3 => (aw_vret rfl dX5_advance_113 ((h1_.2 c2).2 c3))))))))))))))))))))))))))))) (fun c1 => (aw_aload_n dX5_advance_65 rfl (aw_iconst 0 dX5_advance_66 (by decide) (aw_putf fpX5_19 fa_1_2 (vp_nar_int _) rfl dX5_advance_67 (aw_vret rfl dX5_advance_70 (h.2 c1)))))))))))))))
theorem sg_X5_advance_114 {Γ : Gam} {P : Int32 → Mem → Prop}  {g : Mem} (h : (((g 1 1) ≤ (g 1 4) → P 0 g) ∧ (¬ ((g 1 1) ≤ (g 1 4)) → (vp_in (g 1 4) 160 ∧ (Runs Γ 1 yX5_typeOf iX5_typeOf [.inl (g 2 (g 1 4).toNatClampNeg)] g (fun r1 g1 => ((¬ r1 = (g1 1 2) → P 0 g1) ∧ (r1 = (g1 1 2) → AW Γ 2 iX5_advance P 114 [some (.inr 1)] [] (up g1 1 4 ((g1 1 4) + 1)))))))))) : AW Γ 2 iX5_advance P 114 [some (.inr 1)] [] g :=
  (aw_aload_n dX5_advance_114 rfl (aw_geti fkX5_25 fa_1_4 dX5_advance_115 (aw_aload_n dX5_advance_118 rfl (aw_geti fkX5_15 fa_1_1 dX5_advance_119 (aw_icmp_ge 157 dX5_advance_122 (by decide) (fun c1 => (aw_vret rfl dX5_advance_157 (h.1 c1))) (fun c1 => (aw_aload_n dX5_advance_125 rfl (aw_getr 2 fkX5_9 fa_1_0 dX5_advance_126 (aw_aload_n dX5_advance_129 rfl (aw_geti fkX5_25 fa_1_4 dX5_advance_130 (aw_iald aa_2 dX5_advance_133 (h.2 c1).1 (aw_callSi lkX5_112 ckX5_typeOf (d := 1) (by decide) [.inl (g 2 (g 1 4).toNatClampNeg)] rfl rfl (Nat.le_of_ble_eq_true rfl) dX5_advance_134 rfl (Runs.mono (h.2 c1).2 (fun r1 g1 h1_ => (aw_aload_n dX5_advance_137 rfl (aw_geti fkX5_19 fa_1_2 dX5_advance_138 (aw_icmp_ne 157 dX5_advance_141 (by decide) (fun c2 => (aw_vret rfl dX5_advance_157 (h1_.1 c2))) (fun c2 => (aw_aload_n dX5_advance_144 rfl (aw_dup dX5_advance_145 (aw_geti fkX5_25 fa_1_4 dX5_advance_146 (aw_iconst 1 dX5_advance_149 (by decide) (aw_iadd dX5_advance_150 (aw_putf fpX5_25 fa_1_4 (vp_nar_int _) rfl dX5_advance_151 (aw_goto 114 dX5_advance_154 (by decide) (aw_mask [true] rfl (h1_.2 c2)))))))))))))))))))))))))))
theorem lp_X5_adv114 {Γ : Gam} {P : Int32 → Mem → Prop} {L : Nat} {c : Nat → Nat} {g0 : Mem} {t e : Nat} (hL : L ≤ 160) (hc : ∀ j, j < L → c j ≤ 255) (ht : t ≤ 4) (hP : ∀ g, (∀ k, k ≠ 1 → g k = g0 k) → (∀ j, j ≠ 4 → g 1 j = g0 1 j) → g 1 4 = nI e → P 0 g) (h2 : ∀ j, j < L → g0 2 j = nI (c j)) (h1 : g0 1 1 = nI L) (hy : g0 1 2 = nI t) : ∀ n k g, k + n = L → e = ff (fun j => !decide (ty (c j) = t)) k n → (∀ k, k ≠ 1 → g k = g0 k) → (∀ j, j ≠ 4 → g 1 j = g0 1 j) → g 1 4 = nI k → AW Γ 2 iX5_advance P 114 [some (.inr 1)] [] g := by
  intro n
  induction n with
  | zero =>
    intro k g hk he f1 f2 f4
    refine sg_X5_advance_114 ?_
    rw [f2 1 (by decide), h1, f4]
    rw [ff] at he
    exact ⟨fun _ => hP g f1 f2 (by rw [f4, he]), fun d => absurd (nI_le (by omega) (by omega)) d⟩
  | succ n ih =>
    intro k g hk he f1 f2 f4
    have hck := hc k (by omega)
    refine sg_X5_advance_114 ?_
    rw [f2 1 (by decide), h1, f4, ix_nI (n := k) (by omega), f1 2 (by decide), h2 k (by omega)]
    refine ⟨fun d => absurd d (nI_ge (by omega) (by omega)), fun _ => ⟨vp_nI (by omega) (by decide), Runs.fn (ct_X5_typeOf (by omega)) ?_⟩⟩
    have hty := ty_le (c k)
    rw [f2 2 (by decide), hy, f4, nI_eq (by omega) (by omega), nI_1]
    refine ⟨fun d => hP g f1 f2 ?_, fun d => ?_⟩
    · rw [ff_T (by rw [decide_eq_false d]; rfl)] at he
      rw [f4, he]
    · rw [ff_F (by rw [decide_eq_true d]; rfl)] at he
      exact ih (k + 1) _ (by omega) he (fun j hj => by rw [up_ne hj, f1 j hj]) (fun j hj => by rw [up_nx hj, f2 j hj]) (up_at _ _ _ _)
theorem lp_X5_adv46 {Γ : Gam} {P : Int32 → Mem → Prop} {L : Nat} {c : Nat → Nat} {g : Mem} {i : Nat} (hL : L ≤ 160) (hc : ∀ j, j < L → c j ≤ 255) (hi : i ≤ L) (h2 : ∀ j, j < L → g 2 j = nI (c j)) (h1 : g 1 1 = nI L) (h3 : g 1 3 = nI (tF L c i)) (hP : ∀ g', (∀ k, k ≠ 1 → g' k = g k) → g' 1 1 = nI L → g' 1 2 = nI (tT L c i) → g' 1 3 = nI (tF L c i) → g' 1 4 = nI (tB L c i) → P 0 g') : AW Γ 2 iX5_advance P 46 [some (.inr 1)] [] g := by
  have hF := tF_le (c := c) hi
  have hB := tB_le (c := c) hi
  refine sg_X5_advance_46 ?_
  rw [h3, h1, nI_ltI (by omega) (by omega)]
  refine ⟨fun d => ?_, fun d => ?_⟩
  · have hcf := hc _ d
    have eT : tT L c i = ty (c (tF L c i)) := by unfold tT; rw [if_pos d]
    have hty := ty_le (c (tF L c i))
    rw [ix_nI (n := tF L c i) (by omega), h2 _ d]
    refine ⟨vp_nI (by omega) (by decide), Runs.fn (ct_X5_typeOf (by omega)) ?_⟩
    rw [← eT] at hty ⊢
    have e4 : up g 1 4 (nI (tF L c i)) 1 4 = nI (tF L c i) := up_at _ _ _ _
    rw [e4, nI_1, show (1 : Int32) = nI 1 from rfl, show (2 : Int32) = nI 2 from rfl, nI_eq (by omega) (by decide), nI_eq (by omega) (by decide)]
    generalize eG : up (up (up g 1 4 (nI (tF L c i))) 1 2 (nI (tT L c i))) 1 4 (nI (tF L c i + 1)) = G
    have g0 : ∀ k, k ≠ 1 → G k = g k := fun k hk => by rw [← eG, up_ne hk, up_ne hk, up_ne hk]
    have g1 : G 1 1 = nI L := by rw [← eG, up_nx (by decide), up_nx (by decide), up_nx (by decide)]; exact h1
    have g2 : G 1 2 = nI (tT L c i) := by rw [← eG, up_nx (by decide), up_at]
    have g3 : G 1 3 = nI (tF L c i) := by rw [← eG, up_nx (by decide), up_nx (by decide), up_nx (by decide)]; exact h3
    have g4 : G 1 4 = nI (tF L c i + 1) := by rw [← eG, up_at]
    have long : (tT L c i = 1 ∨ tT L c i = 2) → AW Γ 2 iX5_advance P 114 [some (.inr 1)] [] G := by
      intro q
      have eB : tB L c i = ff (fun j => !decide (ty (c j) = tT L c i)) (tF L c i + 1) (L - (tF L c i + 1)) := by unfold tB; rw [if_pos d, if_pos q]
      refine lp_X5_adv114 (g0 := G) (t := tT L c i) (e := tB L c i) hL hc (by omega) (fun g' f1 f2 f4 => ?_) (fun j hj => by rw [g0 2 (by decide)]; exact h2 j hj) g1 g2 (L - (tF L c i + 1)) (tF L c i + 1) G (by omega) eB (fun _ _ => rfl) (fun _ _ => rfl) g4
      exact hP g' (fun k hk => by rw [f1 k hk, g0 k hk]) (by rw [f2 1 (by decide)]; exact g1) (by rw [f2 2 (by decide)]; exact g2) (by rw [f2 3 (by decide)]; exact g3) f4
    refine ⟨fun q => long (Or.inl q), fun q => ⟨fun q2 => long (Or.inr q2), fun q2 => hP G g0 g1 g2 g3 ?_⟩⟩
    have eB : tB L c i = tF L c i + 1 := by unfold tB; rw [if_pos d, if_neg (by omega)]
    rw [eB]; exact g4
  · have eT : tT L c i = 0 := by unfold tT; rw [if_neg d]
    have eB : tB L c i = tF L c i := by unfold tB; rw [if_neg d]
    refine hP _ (fun k hk => by rw [up_ne hk, up_ne hk]) (by rw [up_nx (by decide), up_nx (by decide)]; exact h1) (by rw [up_at, eT]; rfl) (by rw [up_nx (by decide), up_nx (by decide)]; exact h3) (by rw [up_nx (by decide), up_at, eB])
theorem lp_X5_adv8 {Γ : Gam} {P : Int32 → Mem → Prop} {L : Nat} {c : Nat → Nat} {g0 : Mem} {i : Nat} (hL : L ≤ 160) (hc : ∀ j, j < L → c j ≤ 255) (hi : i ≤ L) (h2 : ∀ j, j < L → g0 2 j = nI (c j)) (h1 : g0 1 1 = nI L) (hP : ∀ g', (∀ k, k ≠ 1 → g' k = g0 k) → g' 1 1 = nI L → g' 1 2 = nI (tT L c i) → g' 1 3 = nI (tF L c i) → g' 1 4 = nI (tB L c i) → P 0 g') : ∀ n k g, k + n = L → tF L c i = ff (fun j => !decide (c j = 32)) k n → (∀ k, k ≠ 1 → g k = g0 k) → (∀ j, j ≠ 3 → g 1 j = g0 1 j) → g 1 3 = nI k → AW Γ 2 iX5_advance P 8 [some (.inr 1)] [] g := by
  have fin : ∀ g : Mem, (∀ k, k ≠ 1 → g k = g0 k) → (∀ j, j ≠ 3 → g 1 j = g0 1 j) → g 1 3 = nI (tF L c i) → AW Γ 2 iX5_advance P 46 [some (.inr 1)] [] g := by
    intro g f1 f2 f3
    refine lp_X5_adv46 hL hc hi (fun j hj => by rw [f1 2 (by decide)]; exact h2 j hj) (by rw [f2 1 (by decide)]; exact h1) f3 (fun g' e1 e2 e3 e4 e5 => hP g' (fun k hk => by rw [e1 k hk, f1 k hk]) e2 e3 e4 e5)
  intro n
  induction n with
  | zero =>
    intro k g hk he f1 f2 f3
    refine sg_X5_advance_8 ?_
    rw [f2 1 (by decide), h1, f3]
    rw [ff] at he
    exact ⟨fun _ => fin g f1 f2 (by rw [f3, he]), fun d => absurd (nI_le (by omega) (by omega)) d⟩
  | succ n ih =>
    intro k g hk he f1 f2 f3
    have hck := hc k (by omega)
    refine sg_X5_advance_8 ?_
    rw [f2 1 (by decide), h1, f3, ix_nI (n := k) (by omega), f1 2 (by decide), h2 k (by omega), show (32 : Int32) = nI 32 from rfl, nI_eq (by omega) (by decide), nI_1]
    refine ⟨fun d => absurd d (nI_ge (by omega) (by omega)), fun _ => ⟨vp_nI (by omega) (by decide), fun d => fin g f1 f2 ?_, fun d => ?_⟩⟩
    · rw [ff_T (by rw [decide_eq_false d]; rfl)] at he
      rw [f3, he]
    · rw [ff_F (by rw [decide_eq_true d]; rfl)] at he
      exact ih (k + 1) _ (by omega) he (fun j hj => by rw [up_ne hj, f1 j hj]) (fun j hj => by rw [up_nx hj, f2 j hj]) (up_at _ _ _ _)
/-- the class's reader stands on the token at or behind i -/
def TkC (L : Nat) (c : Nat → Nat) (i : Nat) (g : Mem) : Prop := TC L c g ∧ g 1 2 = nI (tT L c i) ∧ g 1 3 = nI (tF L c i) ∧ g 1 4 = nI (tB L c i)
theorem ct_X5_advance {Γ : Gam} {L : Nat} {c : Nat → Nat} {g : Mem} {i : Nat} (hL : L ≤ 160) (hc : ∀ j, j < L → c j ≤ 255) (hi : i ≤ L) (hT : TC L c g) (h4 : g 1 4 = nI i) : Runs Γ 2 yX5_advance iX5_advance [.inr 1] g (fun _ g' => TkC L c i g' ∧ ∀ k, k ≠ 1 → g' k = g k) := by
  refine Runs.intro (by decide) rfl (Nat.le_of_ble_eq_true rfl) (sg_X5_advance_0 ?_)
  rw [h4]
  have hP : ∀ g', (∀ k, k ≠ 1 → g' k = g k) → g' 1 1 = nI L → g' 1 2 = nI (tT L c i) → g' 1 3 = nI (tF L c i) → g' 1 4 = nI (tB L c i) → TkC L c i g' ∧ ∀ k, k ≠ 1 → g' k = g k := fun g' e1 e2 e3 e4 e5 => ⟨⟨⟨e2, fun j hj => by rw [e1 2 (by decide)]; exact hT.2 j hj⟩, e3, e4, e5⟩, e1⟩
  exact lp_X5_adv8 (g0 := g) hL hc hi hT.2 hT.1 hP (L - i) i _ (by omega) rfl (fun k hk => up_ne hk) (fun j hj => up_nx hj) (up_at _ _ _ _)
