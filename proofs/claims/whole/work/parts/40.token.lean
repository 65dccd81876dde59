/-! The tokens of the text; the class's reader of them. -/
/-- the type of a character: 1 letter, 2 digit, 3 semicolon, 4 else -/
def ty (ch : Nat) : Nat := if 97 ≤ ch ∧ ch ≤ 122 then 1 else if 48 ≤ ch ∧ ch ≤ 57 then 2 else if ch = 59 then 3 else 4
/-- the token at or behind i: its first offset, its type (0 at the end), the offset behind it -/
def tF (L : Nat) (c : Nat → Nat) (i : Nat) : Nat := ff (fun j => !decide (c j = 32)) i (L - i)
def tT (L : Nat) (c : Nat → Nat) (i : Nat) : Nat := if tF L c i < L then ty (c (tF L c i)) else 0
def tB (L : Nat) (c : Nat → Nat) (i : Nat) : Nat := if tF L c i < L then (if tT L c i = 1 ∨ tT L c i = 2 then ff (fun j => !decide (ty (c j) = tT L c i)) (tF L c i + 1) (L - (tF L c i + 1)) else tF L c i + 1) else tF L c i
theorem ty_le (ch : Nat) : 1 ≤ ty ch ∧ ty ch ≤ 4 := by
  unfold ty
  split
  · omega
  · split
    · omega
    · split <;> omega
theorem tF_le {L : Nat} {c : Nat → Nat} {i : Nat} (h : i ≤ L) : i ≤ tF L c i ∧ tF L c i ≤ L := by
  have := ff_bounds (fun j => !decide (c j = 32)) (L - i) i
  unfold tF
  omega
theorem tB_le {L : Nat} {c : Nat → Nat} {i : Nat} (h : i ≤ L) : tF L c i ≤ tB L c i ∧ tB L c i ≤ L ∧ (tF L c i < L → tF L c i < tB L c i) := by
  have a := tF_le (c := c) h
  unfold tB
  split
  · split
    · have := ff_bounds (fun j => !decide (ty (c j) = tT L c i)) (L - (tF L c i + 1)) (tF L c i + 1)
      omega
    · omega
  · omega
theorem sg_X5_typeOf_0 {Γ : Gam} {P : Int32 → Mem → Prop}  (a0 : Int32) {g : Mem} (h : ((a0 < 97 → AW Γ 1 iX5_typeOf P 14 [some (.inl a0)] [] g) ∧ (¬ (a0 < 97) → ((122 < a0 → AW Γ 1 iX5_typeOf P 14 [some (.inl a0)] [] g) ∧ (¬ (122 < a0) → P 1 g))))) : AW Γ 1 iX5_typeOf P 0 [some (.inl a0)] [] g :=
  (aw_iload_n dX5_typeOf_0 rfl (aw_bipush 97 dX5_typeOf_1 (by decide) (aw_icmp_lt 14 dX5_typeOf_3 (by decide) (fun c1 => (aw_mask [true] rfl (h.1 c1))) (fun c1 => (aw_iload_n dX5_typeOf_6 rfl (aw_bipush 122 dX5_typeOf_7 (by decide) (aw_icmp_gt 14 dX5_typeOf_9 (by decide) (fun c2 => (aw_mask [true] rfl ((h.2 c1).1 c2))) (fun c2 => (aw_iconst 1 dX5_typeOf_12 (by decide) (aw_iret rfl (vp_nar_int _) dX5_typeOf_13 ((h.2 c1).2 c2)))))))))))
theorem sg_X5_typeOf_14 {Γ : Gam} {P : Int32 → Mem → Prop}  (a0 : Int32) {g : Mem} (h : ((a0 < 48 → ((¬ a0 = 59 → P 4 g) ∧ (a0 = 59 → P 3 g))) ∧ (¬ (a0 < 48) → ((57 < a0 → ((¬ a0 = 59 → P 4 g) ∧ (a0 = 59 → P 3 g))) ∧ (¬ (57 < a0) → P 2 g))))) : AW Γ 1 iX5_typeOf P 14 [some (.inl a0)] [] g :=
  (aw_iload_n dX5_typeOf_14 rfl (aw_bipush 48 dX5_typeOf_15 (by decide) (aw_icmp_lt 28 dX5_typeOf_17 (by decide) (fun c1 => (aw_iload_n dX5_typeOf_28 rfl (aw_bipush 59 dX5_typeOf_29 (by decide) (aw_icmp_ne 38 dX5_typeOf_31 (by decide) (fun c2 => (aw_iconst 4 dX5_typeOf_38 (by decide) (aw_iret rfl (vp_nar_int _) dX5_typeOf_39 ((h.1 c1).1 c2)))) (fun c2 => (aw_iconst 3 dX5_typeOf_34 (by decide) (aw_goto 39 dX5_typeOf_35 (by decide) (aw_iret rfl (vp_nar_int _) dX5_typeOf_39 ((h.1 c1).2 c2))))))))) (fun c1 => (aw_iload_n dX5_typeOf_20 rfl (aw_bipush 57 dX5_typeOf_21 (by decide) (aw_icmp_gt 28 dX5_typeOf_23 (by decide) (fun c3 => (aw_iload_n dX5_typeOf_28 rfl (aw_bipush 59 dX5_typeOf_29 (by decide) (aw_icmp_ne 38 dX5_typeOf_31 (by decide) (fun c4 => (aw_iconst 4 dX5_typeOf_38 (by decide) (aw_iret rfl (vp_nar_int _) dX5_typeOf_39 (((h.2 c1).1 c3).1 c4)))) (fun c4 => (aw_iconst 3 dX5_typeOf_34 (by decide) (aw_goto 39 dX5_typeOf_35 (by decide) (aw_iret rfl (vp_nar_int _) dX5_typeOf_39 (((h.2 c1).1 c3).2 c4))))))))) (fun c3 => (aw_iconst 2 dX5_typeOf_26 (by decide) (aw_iret rfl (vp_nar_int _) dX5_typeOf_27 ((h.2 c1).2 c3)))))))))))
theorem ct_X5_typeOf {Γ : Gam} {ch : Nat} (h : ch < 2 ^ 31) {g : Mem} : Runs Γ 1 yX5_typeOf iX5_typeOf [.inl (nI ch)] g (fun r g' => r = nI (ty ch) ∧ g' = g) := by
  have t14 : ¬ (97 ≤ ch ∧ ch ≤ 122) → AW Γ 1 iX5_typeOf (fun r g' => r = nI (ty ch) ∧ g' = g) 14 [some (.inl (nI ch))] [] g := by
    intro n1
    refine sg_X5_typeOf_14 _ ?_
    rw [show (48 : Int32) = nI 48 from rfl, show (57 : Int32) = nI 57 from rfl, show (59 : Int32) = nI 59 from rfl, nI_ltI h (by decide), nI_ltI (by decide) h, nI_eq h (by decide)]
    unfold ty
    rw [if_neg n1]
    refine ⟨fun c1 => ?_, fun c1 => ⟨fun c2 => ?_, fun c2 => ?_⟩⟩
    · rw [if_neg (by omega)]
      exact ⟨fun c3 => by rw [if_neg c3]; exact ⟨rfl, rfl⟩, fun c3 => by rw [if_pos c3]; exact ⟨rfl, rfl⟩⟩
    · rw [if_neg (by omega)]
      exact ⟨fun c3 => by rw [if_neg c3]; exact ⟨rfl, rfl⟩, fun c3 => by rw [if_pos c3]; exact ⟨rfl, rfl⟩⟩
    · rw [if_pos (by omega)]; exact ⟨rfl, rfl⟩
  refine Runs.intro (by decide) rfl (Nat.le_of_ble_eq_true rfl) (sg_X5_typeOf_0 _ ?_)
  rw [show (97 : Int32) = nI 97 from rfl, show (122 : Int32) = nI 122 from rfl, nI_ltI h (by decide), nI_ltI (by decide) h]
  refine ⟨fun c1 => t14 (by omega), fun c1 => ⟨fun c2 => t14 (by omega), fun c2 => ?_⟩⟩
  unfold ty
  rw [if_pos (by omega)]; exact ⟨rfl, rfl⟩
theorem sg_X5_advance_0 {Γ : Gam} {P : Int32 → Mem → Prop}  {g : Mem} (h : AW Γ 2 iX5_advance P 8 [some (.inr 1)] [] (up g 1 3 (g 1 4))) : AW Γ 2 iX5_advance P 0 [some (.inr 1)] [] g :=
  (aw_aload_n dX5_advance_0 rfl (aw_aload_n dX5_advance_1 rfl (aw_geti fkX5_25 fa_1_4 dX5_advance_2 (aw_putf fpX5_22 fa_1_3 (vp_nar_int _) rfl dX5_advance_5 (aw_mask [true] rfl h)))))
theorem sg_X5_advance_8 {Γ : Gam} {P : Int32 → Mem → Prop}  {g : Mem} (h : (((g 1 1) ≤ (g 1 3) → AW Γ 2 iX5_advance P 46 [some (.inr 1)] [] g) ∧ (¬ ((g 1 1) ≤ (g 1 3)) → (vp_in (g 1 3) 160 ∧ ((¬ (g 2 (g 1 3).toNatClampNeg) = 32 → AW Γ 2 iX5_advance P 46 [some (.inr 1)] [] g) ∧ ((g 2 (g 1 3).toNatClampNeg) = 32 → AW Γ 2 iX5_advance P 8 [some (.inr 1)] [] (up g 1 3 ((g 1 3) + 1)))))))) : AW Γ 2 iX5_advance P 8 [some (.inr 1)] [] g :=
  (aw_aload_n dX5_advance_8 rfl (aw_geti fkX5_22 fa_1_3 dX5_advance_9 (aw_aload_n dX5_advance_12 rfl (aw_geti fkX5_15 fa_1_1 dX5_advance_13 (aw_icmp_ge 46 dX5_advance_16 (by decide) (fun c1 => (aw_mask [true] rfl (h.1 c1))) (fun c1 => (aw_aload_n dX5_advance_19 rfl (aw_getr 2 fkX5_9 fa_1_0 dX5_advance_20 (aw_aload_n dX5_advance_23 rfl (aw_geti fkX5_22 fa_1_3 dX5_advance_24 (aw_iald aa_2 dX5_advance_27 (h.2 c1).1 (aw_bipush 32 dX5_advance_28 (by decide) (aw_icmp_ne 46 dX5_advance_30 (by decide) (fun c2 => (aw_mask [true] rfl ((h.2 c1).2.1 c2))) (fun c2 => (aw_aload_n dX5_advance_33 rfl (aw_dup dX5_advance_34 (aw_geti fkX5_22 fa_1_3 dX5_advance_35 (aw_iconst 1 dX5_advance_38 (by decide) (aw_iadd dX5_advance_39 (aw_putf fpX5_22 fa_1_3 (vp_nar_int _) rfl dX5_advance_40 (aw_goto 8 dX5_advance_43 (by decide) (aw_mask [true] rfl ((h.2 c1).2.2 c2)))))))))))))))))))))))
theorem sg_X5_advance_46 {Γ : Gam} {P : Int32 → Mem → Prop}  {g : Mem} (h : (((g 1 3) < (g 1 1) → (vp_in (g 1 3) 160 ∧ (Runs Γ 1 yX5_typeOf iX5_typeOf [.inl (g 2 (g 1 3).toNatClampNeg)] (up g 1 4 (g 1 3)) (fun r1 g1 => ((r1 = 1 → AW Γ 2 iX5_advance P 114 [some (.inr 1)] [] (up (up g1 1 2 r1) 1 4 ((g1 1 4) + 1))) ∧ (¬ r1 = 1 → ((r1 = 2 → AW Γ 2 iX5_advance P 114 [some (.inr 1)] [] (up (up g1 1 2 r1) 1 4 ((g1 1 4) + 1))) ∧ (¬ r1 = 2 → P 0 (up (up g1 1 2 r1) 1 4 ((g1 1 4) + 1)))))))))) ∧ (¬ ((g 1 3) < (g 1 1)) → P 0 (up (up g 1 4 (g 1 3)) 1 2 0)))) : AW Γ 2 iX5_advance P 46 [some (.inr 1)] [] g :=
  (aw_aload_n dX5_advance_46 rfl (aw_aload_n dX5_advance_47 rfl (aw_geti fkX5_22 fa_1_3 dX5_advance_48 (aw_putf fpX5_25 fa_1_4 (vp_nar_int _) rfl dX5_advance_51 (aw_aload_n dX5_advance_54 rfl (aw_geti fkX5_22 fa_1_3 dX5_advance_55 (aw_aload_n dX5_advance_58 rfl (aw_geti fkX5_15 fa_1_1 dX5_advance_59 (aw_icmp_lt 71 dX5_advance_62 (by decide) (fun c1 => (aw_aload_n dX5_advance_71 rfl (aw_aload_n dX5_advance_72 rfl (aw_getr 2 fkX5_9 fa_1_0 dX5_advance_73 (aw_aload_n dX5_advance_76 rfl (aw_geti fkX5_22 fa_1_3 dX5_advance_77 (aw_iald aa_2 dX5_advance_80 (h.1 c1).1 (aw_callSi lkX5_112 ckX5_typeOf (d := 1) (by decide) [.inl (g 2 (g 1 3).toNatClampNeg)] rfl rfl (Nat.le_of_ble_eq_true rfl) dX5_advance_81 rfl (Runs.mono (h.1 c1).2 (fun r1 g1 h1_ => (aw_putf fpX5_19 fa_1_2 (vp_nar_int _) rfl dX5_advance_84 (aw_aload_n dX5_advance_87 rfl (aw_dup dX5_advance_88 (aw_geti fkX5_25 fa_1_4 dX5_advance_89 (aw_iconst 1 dX5_advance_92 (by decide) (aw_iadd dX5_advance_93 (aw_putf fpX5_25 fa_1_4 (vp_nar_int _) rfl dX5_advance_94 (aw_aload_n dX5_advance_97 rfl (aw_geti fkX5_19 fa_1_2 dX5_advance_98 (aw_iconst 1 dX5_advance_101 (by decide) (aw_icmp_eq 114 dX5_advance_102 (by decide) (fun c2 => (aw_mask [true] rfl (h1_.1 c2))) (fun c2 => (aw_aload_n dX5_advance_105 rfl (aw_geti fkX5_19 fa_1_2 dX5_advance_106 (aw_iconst 2 dX5_advance_109 (by decide) (aw_icmp_eq 114 dX5_advance_110 (by decide) (fun c3 => (aw_mask [true] rfl ((h1_.2 c2).1 c3))) (fun c3 => (aw_vret rfl dX5_advance_113 ((h1_.2 c2).2 c3))))))))))))))))))))))))))))) (fun c1 => (aw_aload_n dX5_advance_65 rfl (aw_iconst 0 dX5_advance_66 (by decide) (aw_putf fpX5_19 fa_1_2 (vp_nar_int _) rfl dX5_advance_67 (aw_vret rfl dX5_advance_70 (h.2 c1)))))))))))))))
theorem sg_X5_advance_114 {Γ : Gam} {P : Int32 → Mem → Prop}  {g : Mem} (h : (((g 1 1) ≤ (g 1 4) → P 0 g) ∧ (¬ ((g 1 1) ≤ (g 1 4)) → (vp_in (g 1 4) 160 ∧ (Runs Γ 1 yX5_typeOf iX5_typeOf [.inl (g 2 (g 1 4).toNatClampNeg)] g (fun r1 g1 => ((¬ r1 = (g1 1 2) → P 0 g1) ∧ (r1 = (g1 1 2) → AW Γ 2 iX5_advance P 114 [some (.inr 1)] [] (up g1 1 4 ((g1 1 4) + 1)))))))))) : AW Γ 2 iX5_advance P 114 [some (.inr 1)] [] g :=
  (aw_aload_n dX5_advance_114 rfl (aw_geti fkX5_25 fa_1_4 dX5_advance_115 (aw_aload_n dX5_advance_118 rfl (aw_geti fkX5_15 fa_1_1 dX5_advance_119 (aw_icmp_ge 157 dX5_advance_122 (by decide) (fun c1 => (aw_vret rfl dX5_advance_157 (h.1 c1))) (fun c1 => (aw_aload_n dX5_advance_125 rfl (aw_getr 2 fkX5_9 fa_1_0 dX5_advance_126 (aw_aload_n dX5_advance_129 rfl (aw_geti fkX5_25 fa_1_4 dX5_advance_130 (aw_iald aa_2 dX5_advance_133 (h.2 c1).1 (aw_callSi lkX5_112 ckX5_typeOf (d := 1) (by decide) [.inl (g 2 (g 1 4).toNatClampNeg)] rfl rfl (Nat.le_of_ble_eq_true rfl) dX5_advance_134 rfl (Runs.mono (h.2 c1).2 (fun r1 g1 h1_ => (aw_aload_n dX5_advance_137 rfl (aw_geti fkX5_19 fa_1_2 dX5_advance_138 (aw_icmp_ne 157 dX5_advance_141 (by decide) (fun c2 => (aw_vret rfl dX5_advance_157 (h1_.1 c2))) (fun c2 => (aw_aload_n dX5_advance_144 rfl (aw_dup dX5_advance_145 (aw_geti fkX5_25 fa_1_4 dX5_advance_146 (aw_iconst 1 dX5_advance_149 (by decide) (aw_iadd dX5_advance_150 (aw_putf fpX5_25 fa_1_4 (vp_nar_int _) rfl dX5_advance_151 (aw_goto 114 dX5_advance_154 (by decide) (aw_mask [true] rfl (h1_.2 c2)))))))))))))))))))))))))))
theorem lp_X5_adv114 {Γ : Gam} {P : Int32 → Mem → Prop} {L : Nat} {c : Nat → Nat} {g0 : Mem} {t e : Nat} (hL : L ≤ 160) (hc : ∀ j, j < L → c j ≤ 255) (ht : t ≤ 4) (hP : ∀ g, (∀ k, k ≠ 1 → g k = g0 k) → (∀ j, j ≠ 4 → g 1 j = g0 1 j) → g 1 4 = nI e → P 0 g) (h2 : ∀ j, j < L → g0 2 j = nI (c j)) (h1 : g0 1 1 = nI L) (hy : g0 1 2 = nI t) : ∀ n k g, k + n = L → e = ff (fun j => !decide (ty (c j) = t)) k n → (∀ k, k ≠ 1 → g k = g0 k) → (∀ j, j ≠ 4 → g 1 j = g0 1 j) → g 1 4 = nI k → AW Γ 2 iX5_advance P 114 [some (.inr 1)] [] g := by
  intro n
  induction n with
  | zero =>
    intro k g hk he f1 f2 f4
    refine sg_X5_advance_114 ?_
    rw [f2 1 (by decide), h1, f4]
    rw [ff] at he
    exact ⟨fun _ => hP g f1 f2 (by rw [f4, he]), fun d => absurd (nI_le (by omega) (by omega)) d⟩
  | succ n ih =>
    intro k g hk he f1 f2 f4
    have hck := hc k (by omega)
    refine sg_X5_advance_114 ?_
    rw [f2 1 (by decide), h1, f4, ix_nI (n := k) (by omega), f1 2 (by decide), h2 k (by omega)]
    refine ⟨fun d => absurd d (nI_ge (by omega) (by omega)), fun _ => ⟨vp_nI (by omega) (by decide), Runs.fn (ct_X5_typeOf (by omega)) ?_⟩⟩
    have hty := ty_le (c k)
    rw [f2 2 (by decide), hy, f4, nI_eq (by omega) (by omega), nI_1]
    refine ⟨fun d => hP g f1 f2 ?_, fun d => ?_⟩
    · rw [ff_T (by rw [decide_eq_false d]; rfl)] at he
      rw [f4, he]
    · rw [ff_F (by rw [decide_eq_true d]; rfl)] at he
      exact ih (k + 1) _ (by omega) he (fun j hj => by rw [up_ne hj, f1 j hj]) (fun j hj => by rw [up_nx hj, f2 j hj]) (up_at _ _ _ _)
