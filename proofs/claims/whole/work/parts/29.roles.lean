/-! The class's roles. -/
theorem or1 {p : Nat → Bool} {k : Nat} (hk : k < 31) (h : p k = true) : nI (msk p k) ||| (1 <<< (nI k &&& 31)) = nI (msk p (k + 1)) := by
  rw [bit_nI hk, fa_or', msk, if_pos h]
theorem or0 {p : Nat → Bool} {k : Nat} (h : p k = false) : msk p (k + 1) = msk p k := by
  rw [msk, h, if_neg (by decide), Nat.or_zero]
def pw (s : St) (j k : Nat) : Bool := kz s k 1 && decide (s (21 + k) = j)
def pk (s : St) (j k : Nat) : Bool := kz s k 3 && decide (s (11 + k) = j)
def opn (s : St) (x k : Nat) : Bool := kz s x 1 && (kz s k 2 && decide (s (11 + k) = s (11 + x)))
def mat (s : St) (x k : Nat) : Bool := decide (s (31 + k) = s (31 + x))
theorem kz_t {s : St} {x k : Nat} : kz s x k = true ↔ x < s 0 ∧ s (1 + x) = k := by simp [kz]
theorem fit_nI {s : St} (hw : WF s) {x k : Nat} (hx : x < 2 ^ 31) (hk : k < 2 ^ 31) : fitB s (nI k) (nI x) = opn s x k := by
  unfold fitB opn
  rw [show (2 : Int32) = nI 2 from rfl, show (1 : Int32) = nI 1 from rfl, kz_nI hw hk (by decide), kz_nI hw hx (by decide), ix_nI hx, ix_nI hk]
  cases kz s k 2 <;> cases kz s x 1 <;> simp
theorem sg_X3_agentsWith_0 {Γ : Gam} {P : Int32 → Mem → Prop}  (a1 : Int32) {g : Mem} (h : AW Γ 4 iX3_agentsWith P 4 [some (.inr 34), some (.inl a1), some (.inl 0), some (.inl 0)] [] g) : AW Γ 4 iX3_agentsWith P 0 [some (.inr 34), some (.inl a1)] [] g :=
  (aw_iconst 0 dX3_agentsWith_0 (by decide) (aw_istore_n [some (.inr 34), some (.inl a1), some (.inl 0)] dX3_agentsWith_1 (by decide) rfl (aw_iconst 0 dX3_agentsWith_2 (by decide) (aw_istore_n [some (.inr 34), some (.inl a1), some (.inl 0), some (.inl 0)] dX3_agentsWith_3 (by decide) rfl (aw_mask [true, true, true, true] rfl h)))))
theorem sg_X3_agentsWith_4 {Γ : Gam} {P : Int32 → Mem → Prop}  (s : St) (a1 a2 a3 : Int32) {g : Mem} (h : (((g 34 0) ≤ a3 → P a2 g) ∧ (¬ ((g 34 0) ≤ a3) → (CW 34 s g ∧ (((bi (isW s a3 a1)) = 0 → AW Γ 4 iX3_agentsWith P 4 [some (.inr 34), some (.inl a1), some (.inl a2), some (.inl (a3 + 1))] [] g) ∧ (¬ (bi (isW s a3 a1)) = 0 → AW Γ 4 iX3_agentsWith P 4 [some (.inr 34), some (.inl a1), some (.inl (a2 ||| (1 <<< (a3 &&& 31)))), some (.inl (a3 + 1))] [] g)))))) : AW Γ 4 iX3_agentsWith P 4 [some (.inr 34), some (.inl a1), some (.inl a2), some (.inl a3)] [] g :=
  (aw_iload_n dX3_agentsWith_4 rfl (aw_aload_n dX3_agentsWith_5 rfl (aw_geti fkX3_49 (fs_0 isSt_34) dX3_agentsWith_6 (aw_icmp_ge 34 dX3_agentsWith_9 (by decide) (fun c1 => (aw_iload_n dX3_agentsWith_34 rfl (aw_iret rfl (vp_nar_int _) dX3_agentsWith_35 (h.1 c1)))) (fun c1 => (aw_aload_n dX3_agentsWith_12 rfl (aw_iload_n dX3_agentsWith_13 rfl (aw_iload_n dX3_agentsWith_14 rfl (aw_callVi lkX3_85 ckX4_isAgentWith (cs_ isSt_34) rfl (d := 3) (by decide) [.inl a3, .inl a1] rfl rfl (Nat.le_of_ble_eq_true rfl) dX3_agentsWith_15 rfl (Runs.fn ((ct_X4_isAgentWith isSt_34) (h.2 c1).1) (aw_if_eq 28 dX3_agentsWith_18 (by decide) (fun c2 => (aw_iinc (a3 + 1) [some (.inr 34), some (.inl a1), some (.inl a2), some (.inl (a3 + 1))] dX3_agentsWith_28 rfl (by rfl) (by decide) rfl (aw_goto 4 dX3_agentsWith_31 (by decide) (aw_mask [true, true, true, true] rfl ((h.2 c1).2.1 c2))))) (fun c2 => (aw_iload_n dX3_agentsWith_21 rfl (aw_iload_n dX3_agentsWith_22 rfl (aw_callSNi nkX3_71 ckX6_bit (d := 1) (by decide) [.inl a3] rfl rfl (Nat.le_of_ble_eq_true rfl) dX3_agentsWith_23 rfl (Runs.fn ct_X6_bit (aw_ior dX3_agentsWith_26 (aw_istore_n [some (.inr 34), some (.inl a1), some (.inl (a2 ||| (1 <<< (a3 &&& 31)))), some (.inl a3)] dX3_agentsWith_27 (by decide) rfl (aw_iinc (a3 + 1) [some (.inr 34), some (.inl a1), some (.inl (a2 ||| (1 <<< (a3 &&& 31)))), some (.inl (a3 + 1))] dX3_agentsWith_28 rfl (by rfl) (by decide) rfl (aw_goto 4 dX3_agentsWith_31 (by decide) (aw_mask [true, true, true, true] rfl ((h.2 c1).2.2 c2))))))))))))))))))))))
theorem lp_X3_agentsWith {Γ : Gam} {P : Int32 → Mem → Prop} {s : St} {g : Mem} {f : Nat} (h : CW 34 s g) (hf : f < 2 ^ 31) (hP : P (nI (msk (fun x => dz s x f) (s 0))) g) : ∀ n k, k + n = s 0 → AW Γ 4 iX3_agentsWith P 4 [some (.inr 34), some (.inl (nI f)), some (.inl (nI (msk (fun x => dz s x f) k))), some (.inl (nI k))] [] g := by
  intro n
  have hn := h.2.n
  have e0 : g 34 0 = nI (s 0) := h.1.1
  induction n with
  | zero =>
    intro k hk
    refine sg_X3_agentsWith_4 s _ _ _ ?_
    rw [e0]
    refine ⟨fun _ => ?_, fun c => absurd (nI_le (by omega) (by omega)) c⟩
    rw [show k = s 0 by omega]
    exact hP
  | succ n ih =>
    intro k hk
    refine sg_X3_agentsWith_4 s _ _ _ ?_
    have hih := ih (k + 1) (by omega)
    rw [e0, dz_nI h.2 (by omega) hf, nI_1]
    refine ⟨fun c => absurd c (nI_ge (by omega) (by omega)), fun _ => ⟨h, fun c => ?_, fun c => ?_⟩⟩
    · rw [bi_eq0] at c
      rw [or0 (p := fun x => dz s x f) c] at hih
      exact hih
    · rw [bi_ne0] at c
      rw [or1 (p := fun x => dz s x f) (by omega) c]
      exact hih
theorem ct_X3_agentsWith {Γ : Gam} {s : St} {g : Mem} {f : Nat} (h : CW 34 s g) (hf : f < 2 ^ 31) : Runs Γ 4 yX3_agentsWith iX3_agentsWith [.inr 34, .inl (nI f)] g (fun r g' => r = nI (msk (fun x => dz s x f) (s 0)) ∧ g' = g) :=
  Runs.intro (by decide) rfl (Nat.le_of_ble_eq_true rfl) (sg_X3_agentsWith_0 _ (lp_X3_agentsWith h hf ⟨rfl, rfl⟩ (s 0) 0 (by omega)))
/-- the roles of the objects below x -/
def RoP (s : St) (x : Nat) (g : Mem) : Prop := g 6 0 = nI (s 0) ∧ g 6 5 = nI (msk (fun k => kz s k 3) x) ∧ g 6 6 = nI (msk (hz s) x) ∧ (∀ j, j < x → ((s (1 + j) = 1 → g 7 j = nI (s (21 + j))) ∧ (s (1 + j) = 3 → g 7 j = nI (s (11 + j)))) ∧ g 8 j = nI (msk (opn s j) (s 0)) ∧ g 11 j = nI (msk (mat s j) (s 0))) ∧ ∀ j, j < s 0 → g 9 j = nI (msk (pw s j) x) ∧ g 10 j = nI (msk (pk s j) x)
def frR (g g' : Mem) : Prop := (∀ k, (k < 6 ∨ 11 < k) → g' k = g k) ∧ ∀ j, 1 ≤ j → j ≤ 4 → g' 6 j = g 6 j
theorem frR.trans {g1 g2 g3 : Mem} (h : frR g1 g2) (h' : frR g2 g3) : frR g1 g3 := ⟨fun k a => by rw [h'.1 k a, h.1 k a], fun j a b => by rw [h'.2 j a b, h.2 j a b]⟩
theorem sg_X3_readObject_0 {Γ : Gam} {P : Int32 → Mem → Prop}  (s : St) (a2 : Int32) {g : Mem} (h : (vp_in a2 10 ∧ (vp_in a2 10 ∧ (CW 34 s (up g 7 a2.toNatClampNeg (g 37 a2.toNatClampNeg)) ∧ (((bi (isK s a2 1)) = 0 → AW Γ 4 iX3_readObject P 36 [some (.inr 6), some (.inr 34), some (.inl a2), some (.inl (g 37 a2.toNatClampNeg))] [] (up g 7 a2.toNatClampNeg (g 37 a2.toNatClampNeg))) ∧ (¬ (bi (isK s a2 1)) = 0 → (vp_in (g 37 a2.toNatClampNeg) 10 ∧ (vp_in (g 37 a2.toNatClampNeg) 10 ∧ AW Γ 4 iX3_readObject P 36 [some (.inr 6), some (.inr 34), some (.inl a2), some (.inl (g 37 a2.toNatClampNeg))] [] (up (up g 7 a2.toNatClampNeg (g 37 a2.toNatClampNeg)) 9 (g 37 a2.toNatClampNeg).toNatClampNeg ((g 9 (g 37 a2.toNatClampNeg).toNatClampNeg) ||| (1 <<< (a2 &&& 31)))))))))))) : AW Γ 4 iX3_readObject P 0 [some (.inr 6), some (.inr 34), some (.inl a2)] [] g :=
  (aw_aload_n dX3_readObject_0 rfl (aw_getr 37 fkX3_66 (fs_3 isSt_34) dX3_readObject_1 (aw_iload_n dX3_readObject_4 rfl (aw_iald (as_3 (b := 34) isSt_34) dX3_readObject_5 h.1 (aw_istore_n [some (.inr 6), some (.inr 34), some (.inl a2), some (.inl (g 37 a2.toNatClampNeg))] dX3_readObject_6 (by decide) rfl (aw_aload_n dX3_readObject_7 rfl (aw_getr 7 fkX3_33 fa_6_7 dX3_readObject_8 (aw_iload_n dX3_readObject_11 rfl (aw_iload_n dX3_readObject_12 rfl (aw_iast aa_7 dX3_readObject_13 h.2.1 (aw_aload_n dX3_readObject_14 rfl (aw_iload_n dX3_readObject_15 rfl (aw_iconst 1 dX3_readObject_16 (by decide) (aw_callVi lkX3_67 ckX4_isOfKind (cs_ isSt_34) rfl (d := 2) (by decide) [.inl a2, .inl 1] rfl rfl (Nat.le_of_ble_eq_true rfl) dX3_readObject_17 rfl (Runs.fn ((ct_X4_isOfKind isSt_34) h.2.2.1) (aw_if_eq 36 dX3_readObject_20 (by decide) (fun c1 => (aw_mask [true, true, true, true] rfl (h.2.2.2.1 c1))) (fun c1 => (aw_aload_n dX3_readObject_23 rfl (aw_getr 9 fkX3_40 fa_6_9 dX3_readObject_24 (aw_iload_n dX3_readObject_27 rfl (aw_dup2 dX3_readObject_28 (aw_iald aa_9 dX3_readObject_29 (h.2.2.2.2 c1).1 (aw_iload_n dX3_readObject_30 rfl (aw_callSNi nkX3_71 ckX6_bit (d := 1) (by decide) [.inl a2] rfl rfl (Nat.le_of_ble_eq_true rfl) dX3_readObject_31 rfl (Runs.fn ct_X6_bit (aw_ior dX3_readObject_34 (aw_iast aa_9 dX3_readObject_35 (h.2.2.2.2 c1).2.1 (aw_mask [true, true, true, true] rfl (h.2.2.2.2 c1).2.2))))))))))))))))))))))))))))
theorem sg_X3_readObject_36 {Γ : Gam} {P : Int32 → Mem → Prop}  (s : St) (a2 a3 : Int32) {g : Mem} (h : (CW 34 s g ∧ (((bi (isK s a2 3)) = 0 → AW Γ 4 iX3_readObject P 71 [some (.inr 6), some (.inr 34), some (.inl a2)] [] g) ∧ (¬ (bi (isK s a2 3)) = 0 → (vp_in a3 10 ∧ (vp_in a3 10 ∧ AW Γ 4 iX3_readObject P 71 [some (.inr 6), some (.inr 34), some (.inl a2)] [] (up (up g 10 a3.toNatClampNeg ((g 10 a3.toNatClampNeg) ||| (1 <<< (a2 &&& 31)))) 6 5 ((g 6 5) ||| (1 <<< (a2 &&& 31)))))))))) : AW Γ 4 iX3_readObject P 36 [some (.inr 6), some (.inr 34), some (.inl a2), some (.inl a3)] [] g :=
  (aw_aload_n dX3_readObject_36 rfl (aw_iload_n dX3_readObject_37 rfl (aw_iconst 3 dX3_readObject_38 (by decide) (aw_callVi lkX3_67 ckX4_isOfKind (cs_ isSt_34) rfl (d := 2) (by decide) [.inl a2, .inl 3] rfl rfl (Nat.le_of_ble_eq_true rfl) dX3_readObject_39 rfl (Runs.fn ((ct_X4_isOfKind isSt_34) h.1) (aw_if_eq 71 dX3_readObject_42 (by decide) (fun c1 => (aw_mask [true, true, true] rfl (h.2.1 c1))) (fun c1 => (aw_aload_n dX3_readObject_45 rfl (aw_getr 10 fkX3_43 fa_6_10 dX3_readObject_46 (aw_iload_n dX3_readObject_49 rfl (aw_dup2 dX3_readObject_50 (aw_iald aa_10 dX3_readObject_51 (h.2.2 c1).1 (aw_iload_n dX3_readObject_52 rfl (aw_callSNi nkX3_71 ckX6_bit (d := 1) (by decide) [.inl a2] rfl rfl (Nat.le_of_ble_eq_true rfl) dX3_readObject_53 rfl (Runs.fn ct_X6_bit (aw_ior dX3_readObject_56 (aw_iast aa_10 dX3_readObject_57 (h.2.2 c1).2.1 (aw_aload_n dX3_readObject_58 rfl (aw_dup dX3_readObject_59 (aw_geti fkX3_27 fa_6_5 dX3_readObject_60 (aw_iload_n dX3_readObject_63 rfl (aw_callSNi nkX3_71 ckX6_bit (d := 1) (by decide) [.inl a2] rfl rfl (Nat.le_of_ble_eq_true rfl) dX3_readObject_64 rfl (Runs.fn ct_X6_bit (aw_ior dX3_readObject_67 (aw_putf fpX3_27 fa_6_5 (vp_nar_int _) rfl dX3_readObject_68 (aw_mask [true, true, true] rfl (h.2.2 c1).2.2))))))))))))))))))))))))))
theorem sg_X3_readObject_71 {Γ : Gam} {P : Int32 → Mem → Prop}  (s : St) (a2 : Int32) {g : Mem} (h : (CW 34 s g ∧ (((bi (isH s a2)) = 0 → AW Γ 4 iX3_readObject P 92 [some (.inr 6), some (.inr 34), some (.inl a2)] [] g) ∧ (¬ (bi (isH s a2)) = 0 → AW Γ 4 iX3_readObject P 92 [some (.inr 6), some (.inr 34), some (.inl a2)] [] (up g 6 6 ((g 6 6) ||| (1 <<< (a2 &&& 31)))))))) : AW Γ 4 iX3_readObject P 71 [some (.inr 6), some (.inr 34), some (.inl a2)] [] g :=
  (aw_aload_n dX3_readObject_71 rfl (aw_iload_n dX3_readObject_72 rfl (aw_callVi lkX3_75 ckX4_canHold (cs_ isSt_34) rfl (d := 2) (by decide) [.inl a2] rfl rfl (Nat.le_of_ble_eq_true rfl) dX3_readObject_73 rfl (Runs.fn ((ct_X4_canHold isSt_34) h.1) (aw_if_eq 92 dX3_readObject_76 (by decide) (fun c1 => (aw_mask [true, true, true] rfl (h.2.1 c1))) (fun c1 => (aw_aload_n dX3_readObject_79 rfl (aw_dup dX3_readObject_80 (aw_geti fkX3_30 fa_6_6 dX3_readObject_81 (aw_iload_n dX3_readObject_84 rfl (aw_callSNi nkX3_71 ckX6_bit (d := 1) (by decide) [.inl a2] rfl rfl (Nat.le_of_ble_eq_true rfl) dX3_readObject_85 rfl (Runs.fn ct_X6_bit (aw_ior dX3_readObject_88 (aw_putf fpX3_30 fa_6_6 (vp_nar_int _) rfl dX3_readObject_89 (aw_mask [true, true, true] rfl (h.2.2 c1))))))))))))))))
theorem sg_X3_readObject_92 {Γ : Gam} {P : Int32 → Mem → Prop}  (a2 : Int32) {g : Mem} (h : (vp_in a2 10 ∧ (vp_in a2 10 ∧ AW Γ 4 iX3_readObject P 109 [some (.inr 6), some (.inr 34), some (.inl a2), none, some (.inl 0)] [] (up (up g 8 a2.toNatClampNeg 0) 11 a2.toNatClampNeg 0)))) : AW Γ 4 iX3_readObject P 92 [some (.inr 6), some (.inr 34), some (.inl a2)] [] g :=
  (aw_aload_n dX3_readObject_92 rfl (aw_getr 8 fkX3_37 fa_6_8 dX3_readObject_93 (aw_iload_n dX3_readObject_96 rfl (aw_iconst 0 dX3_readObject_97 (by decide) (aw_iast aa_8 dX3_readObject_98 h.1 (aw_aload_n dX3_readObject_99 rfl (aw_getr 11 fkX3_46 fa_6_11 dX3_readObject_100 (aw_iload_n dX3_readObject_103 rfl (aw_iconst 0 dX3_readObject_104 (by decide) (aw_iast aa_11 dX3_readObject_105 h.2.1 (aw_iconst 0 dX3_readObject_106 (by decide) (aw_istore [some (.inr 6), some (.inr 34), some (.inl a2), none, some (.inl 0)] dX3_readObject_107 (by decide) rfl (aw_mask [true, true, true, false, true] rfl h.2.2)))))))))))))
theorem sg_X3_readObject_109 {Γ : Gam} {P : Int32 → Mem → Prop}  (s : St) (a2 a4 : Int32) {g : Mem} (h : (((g 6 0) ≤ a4 → P 0 g) ∧ (¬ ((g 6 0) ≤ a4) → (CW 34 s g ∧ (((bi (fitB s a4 a2)) = 0 → AW Γ 4 iX3_readObject P 142 [some (.inr 6), some (.inr 34), some (.inl a2), none, some (.inl a4)] [] g) ∧ (¬ (bi (fitB s a4 a2)) = 0 → (vp_in a2 10 ∧ (vp_in a2 10 ∧ AW Γ 4 iX3_readObject P 142 [some (.inr 6), some (.inr 34), some (.inl a2), none, some (.inl a4)] [] (up g 8 a2.toNatClampNeg ((g 8 a2.toNatClampNeg) ||| (1 <<< (a4 &&& 31)))))))))))) : AW Γ 4 iX3_readObject P 109 [some (.inr 6), some (.inr 34), some (.inl a2), none, some (.inl a4)] [] g :=
  (aw_iload dX3_readObject_109 rfl (aw_aload_n dX3_readObject_111 rfl (aw_geti fkX3_9 fa_6_0 dX3_readObject_112 (aw_icmp_ge 178 dX3_readObject_115 (by decide) (fun c1 => (aw_vret rfl dX3_readObject_178 (h.1 c1))) (fun c1 => (aw_aload_n dX3_readObject_118 rfl (aw_iload dX3_readObject_119 rfl (aw_iload_n dX3_readObject_121 rfl (aw_callVi lkX3_79 ckX4_fits (cs_ isSt_34) rfl (d := 3) (by decide) [.inl a4, .inl a2] rfl rfl (Nat.le_of_ble_eq_true rfl) dX3_readObject_122 rfl (Runs.fn ((ct_X4_fits isSt_34) (h.2 c1).1) (aw_if_eq 142 dX3_readObject_125 (by decide) (fun c2 => (aw_mask [true, true, true, false, true] rfl ((h.2 c1).2.1 c2))) (fun c2 => (aw_aload_n dX3_readObject_128 rfl (aw_getr 8 fkX3_37 fa_6_8 dX3_readObject_129 (aw_iload_n dX3_readObject_132 rfl (aw_dup2 dX3_readObject_133 (aw_iald aa_8 dX3_readObject_134 ((h.2 c1).2.2 c2).1 (aw_iload dX3_readObject_135 rfl (aw_callSNi nkX3_71 ckX6_bit (d := 1) (by decide) [.inl a4] rfl rfl (Nat.le_of_ble_eq_true rfl) dX3_readObject_137 rfl (Runs.fn ct_X6_bit (aw_ior dX3_readObject_140 (aw_iast aa_8 dX3_readObject_141 ((h.2 c1).2.2 c2).2.1 (aw_mask [true, true, true, false, true] rfl ((h.2 c1).2.2 c2).2.2)))))))))))))))))))))))
theorem sg_X3_readObject_142 {Γ : Gam} {P : Int32 → Mem → Prop}  (a2 a4 : Int32) {g : Mem} (h : (vp_in a4 10 ∧ (vp_in a2 10 ∧ ((¬ (g 38 a4.toNatClampNeg) = (g 38 a2.toNatClampNeg) → AW Γ 4 iX3_readObject P 109 [some (.inr 6), some (.inr 34), some (.inl a2), none, some (.inl (a4 + 1))] [] g) ∧ ((g 38 a4.toNatClampNeg) = (g 38 a2.toNatClampNeg) → (vp_in a2 10 ∧ (vp_in a2 10 ∧ AW Γ 4 iX3_readObject P 109 [some (.inr 6), some (.inr 34), some (.inl a2), none, some (.inl (a4 + 1))] [] (up g 11 a2.toNatClampNeg ((g 11 a2.toNatClampNeg) ||| (1 <<< (a4 &&& 31))))))))))) : AW Γ 4 iX3_readObject P 142 [some (.inr 6), some (.inr 34), some (.inl a2), none, some (.inl a4)] [] g :=
  (aw_aload_n dX3_readObject_142 rfl (aw_getr 38 fkX3_82 (fs_4 isSt_34) dX3_readObject_143 (aw_iload dX3_readObject_146 rfl (aw_iald (as_4 (b := 34) isSt_34) dX3_readObject_148 h.1 (aw_aload_n dX3_readObject_149 rfl (aw_getr 38 fkX3_82 (fs_4 isSt_34) dX3_readObject_150 (aw_iload_n dX3_readObject_153 rfl (aw_iald (as_4 (b := 34) isSt_34) dX3_readObject_154 h.2.1 (aw_icmp_ne 172 dX3_readObject_155 (by decide) (fun c1 => (aw_iinc (a4 + 1) [some (.inr 6), some (.inr 34), some (.inl a2), none, some (.inl (a4 + 1))] dX3_readObject_172 rfl (by rfl) (by decide) rfl (aw_goto 109 dX3_readObject_175 (by decide) (aw_mask [true, true, true, false, true] rfl (h.2.2.1 c1))))) (fun c1 => (aw_aload_n dX3_readObject_158 rfl (aw_getr 11 fkX3_46 fa_6_11 dX3_readObject_159 (aw_iload_n dX3_readObject_162 rfl (aw_dup2 dX3_readObject_163 (aw_iald aa_11 dX3_readObject_164 (h.2.2.2 c1).1 (aw_iload dX3_readObject_165 rfl (aw_callSNi nkX3_71 ckX6_bit (d := 1) (by decide) [.inl a4] rfl rfl (Nat.le_of_ble_eq_true rfl) dX3_readObject_167 rfl (Runs.fn ct_X6_bit (aw_ior dX3_readObject_170 (aw_iast aa_11 dX3_readObject_171 (h.2.2.2 c1).2.1 (aw_iinc (a4 + 1) [some (.inr 6), some (.inr 34), some (.inl a2), none, some (.inl (a4 + 1))] dX3_readObject_172 rfl (by rfl) (by decide) rfl (aw_goto 109 dX3_readObject_175 (by decide) (aw_mask [true, true, true, false, true] rfl (h.2.2.2 c1).2.2)))))))))))))))))))))))
theorem lp_X3_ro109 {Γ : Gam} {P : Int32 → Mem → Prop} {s : St} {g : Mem} {x : Nat} (h : CW 34 s g) (hx : x < s 0) (h0 : g 6 0 = nI (s 0)) (hP : ∀ g', (∀ k, k ≠ 8 → k ≠ 11 → g' k = g k) → (∀ j, j ≠ x → g' 8 j = g 8 j ∧ g' 11 j = g 11 j) → g' 8 x = nI (msk (opn s x) (s 0)) → g' 11 x = nI (msk (mat s x) (s 0)) → P 0 g') : ∀ n k g', k + n = s 0 → (∀ k, k ≠ 8 → k ≠ 11 → g' k = g k) → (∀ j, j ≠ x → g' 8 j = g 8 j ∧ g' 11 j = g 11 j) → g' 8 x = nI (msk (opn s x) k) → g' 11 x = nI (msk (mat s x) k) → AW Γ 4 iX3_readObject P 109 [some (.inr 6), some (.inr 34), some (.inl (nI x)), none, some (.inl (nI k))] [] g' := by
  intro n
  have hn := h.2.n
  induction n with
  | zero =>
    intro k g' hk e1 e2 e3 e4
    refine sg_X3_readObject_109 s _ _ ?_
    rw [e1 6 (by decide) (by decide), h0]
    rw [show k = s 0 by omega] at e3 e4
    exact ⟨fun _ => hP g' e1 e2 e3 e4, fun c => absurd (nI_le (by omega) (by omega)) c⟩
  | succ n ih =>
    intro k g' hk e1 e2 e3 e4
    have hS : CW 34 s g' := ⟨h.1.ext (fun k k1 k2 => e1 k (by omega) (by omega)), h.2⟩
    have step : ∀ g', (∀ k, k ≠ 8 → k ≠ 11 → g' k = g k) → (∀ j, j ≠ x → g' 8 j = g 8 j ∧ g' 11 j = g 11 j) → g' 8 x = nI (msk (opn s x) (k + 1)) → g' 11 x = nI (msk (mat s x) k) → AW Γ 4 iX3_readObject P 142 [some (.inr 6), some (.inr 34), some (.inl (nI x)), none, some (.inl (nI k))] [] g' := by
      intro g' e1 e2 e3 e4
      refine sg_X3_readObject_142 _ _ ?_
      have hS : CW 34 s g' := ⟨h.1.ext (fun k k1 k2 => e1 k (by omega) (by omega)), h.2⟩
      have hg1 := hS.1.2.2.2.2.1 k (by omega)
      have hg2 := hS.1.2.2.2.2.1 x hx
      have b1 := (h.2.o (i := k) (by omega)).2.1
      have b2 := (h.2.o hx).2.1
      rw [ix_nI (n := k) (by omega), ix_nI (n := x) (by omega), show g' 38 k = nI (s (31 + k)) from hg1, show g' 38 x = nI (s (31 + x)) from hg2, nI_eq (by omega) (by omega), nI_1, e4]
      refine ⟨vp_nI (by omega) (by decide), vp_nI (by omega) (by decide), fun c => ?_, fun c => ⟨vp_nI (by omega) (by decide), vp_nI (by omega) (by decide), ?_⟩⟩
      · refine ih (k + 1) g' (by omega) e1 e2 e3 ?_
        rw [or0 (p := mat s x) (decide_eq_false c)]
        exact e4
      · rw [or1 (p := mat s x) (by omega) (decide_eq_true c)]
        refine ih (k + 1) _ (by omega) (fun k k1 k2 => by rw [up_ne k2, e1 k k1 k2]) (fun j hj => ?_) ?_ (up_at _ _ _ _)
        · rw [up_ne (by decide), up_nx hj]; exact e2 j hj
        · rw [up_ne (by decide)]; exact e3
    refine sg_X3_readObject_109 s _ _ ?_
    rw [e1 6 (by decide) (by decide), h0, fit_nI h.2 (by omega) (by omega), ix_nI (n := x) (by omega), e3]
    refine ⟨fun c => absurd c (nI_ge (by omega) (by omega)), fun _ => ⟨hS, fun c => ?_, fun c => ⟨vp_nI (by omega) (by decide), vp_nI (by omega) (by decide), ?_⟩⟩⟩
    · rw [bi_eq0] at c
      refine step g' e1 e2 ?_ e4
      rw [or0 (p := opn s x) c]
      exact e3
    · rw [bi_ne0] at c
      rw [or1 (p := opn s x) (by omega) c]
      refine step _ (fun k k1 k2 => by rw [up_ne k1, e1 k k1 k2]) (fun j hj => ?_) (up_at _ _ _ _) ?_
      · rw [up_ne (a := 11) (by decide), up_nx hj]; exact e2 j hj
      · rw [up_ne (by decide)]; exact e4
theorem lp_X3_ro92 {Γ : Gam} {P : Int32 → Mem → Prop} {s : St} {g : Mem} {x : Nat} (h : CW 34 s g) (hx : x < s 0) (h0 : g 6 0 = nI (s 0)) (hP : ∀ g', (∀ k, k ≠ 8 → k ≠ 11 → g' k = g k) → (∀ j, j ≠ x → g' 8 j = g 8 j ∧ g' 11 j = g 11 j) → g' 8 x = nI (msk (opn s x) (s 0)) → g' 11 x = nI (msk (mat s x) (s 0)) → P 0 g') : AW Γ 4 iX3_readObject P 92 [some (.inr 6), some (.inr 34), some (.inl (nI x))] [] g := by
  have hn := h.2.n
  refine sg_X3_readObject_92 _ ?_
  rw [ix_nI (n := x) (by omega)]
  refine ⟨vp_nI (by omega) (by decide), vp_nI (by omega) (by decide), lp_X3_ro109 h hx h0 hP (s 0) 0 _ (by omega) (fun k k1 k2 => by rw [up_ne k2, up_ne k1]) (fun j hj => ⟨by rw [up_ne (by decide), up_nx hj], by rw [up_nx hj, up_ne (by decide)]⟩) ?_ (up_at _ _ _ _)⟩
  rw [up_ne (by decide), up_at]
  rfl
theorem ct_X3_readObject {Γ : Gam} {s : St} {g : Mem} {x : Nat} (h : CW 34 s g) (hR : RoP s x g) (hx : x < s 0) : Runs Γ 4 yX3_readObject iX3_readObject [.inr 6, .inr 34, .inl (nI x)] g (fun _ g' => RoP s (x + 1) g' ∧ frR g g') := by
  have hn := h.2.n
  obtain ⟨r0, r5, r6, rj, rw_⟩ := hR
  have ho := h.2.o hx
  obtain ⟨t1, t3⟩ := h.1.2.2.2.1 x hx
  -- from 92
  have s92 : ∀ g', (∀ k, k ≠ 6 → k ≠ 7 → k ≠ 9 → k ≠ 10 → g' k = g k) → (∀ j, j < 5 → g' 6 j = g 6 j) → (∀ j, j ≠ x → g' 7 j = g 7 j) → g' 7 x = g 37 x → (∀ j, j < s 0 → g' 9 j = nI (msk (pw s j) (x + 1))) → (∀ j, j < s 0 → g' 10 j = nI (msk (pk s j) (x + 1))) → g' 6 5 = nI (msk (fun k => kz s k 3) (x + 1)) → g' 6 6 = nI (msk (hz s) (x + 1)) → AW Γ 4 iX3_readObject (fun _ g' => RoP s (x + 1) g' ∧ frR g g') 92 [some (.inr 6), some (.inr 34), some (.inl (nI x))] [] g' := by
    intro g' e1 e6 e7 e7x e9 e10 e5 e66
    refine lp_X3_ro92 ⟨h.1.ext (fun k k1 k2 => e1 k (by omega) (by omega) (by omega) (by omega)), h.2⟩ hx (by rw [e6 0 (by decide)]; exact r0) (fun g2 f1 f2 f8 f11 => ⟨⟨?_, ?_, ?_, fun j hj => ?_, fun j hj => ?_⟩, fun k hk => ?_, fun j j1 j2 => ?_⟩)
    · rw [f1 6 (by decide) (by decide), e6 0 (by decide)]; exact r0
    · rw [f1 6 (by decide) (by decide)]; exact e5
    · rw [f1 6 (by decide) (by decide)]; exact e66
    · rw [f1 7 (by decide) (by decide)]
      by_cases e : j = x
      · subst e
        rw [e7x]
        exact ⟨⟨t1, t3⟩, f8, f11⟩
      · rw [e7 j e, (f2 j e).1, (f2 j e).2, e1 8 (by decide) (by decide) (by decide) (by decide), e1 11 (by decide) (by decide) (by decide) (by decide)]
        exact rj j (by omega)
    · rw [f1 9 (by decide) (by decide), f1 10 (by decide) (by decide)]
      exact ⟨e9 j hj, e10 j hj⟩
    · rw [f1 k (by omega) (by omega), e1 k (by omega) (by omega) (by omega) (by omega)]
    · rw [f1 6 (by decide) (by decide), e6 j (by omega)]
  -- from 71
  have s71 : ∀ g', (∀ k, k ≠ 6 → k ≠ 7 → k ≠ 9 → k ≠ 10 → g' k = g k) → (∀ j, j < 5 → g' 6 j = g 6 j) → g' 6 6 = g 6 6 → (∀ j, j ≠ x → g' 7 j = g 7 j) → g' 7 x = g 37 x → (∀ j, j < s 0 → g' 9 j = nI (msk (pw s j) (x + 1))) → (∀ j, j < s 0 → g' 10 j = nI (msk (pk s j) (x + 1))) → g' 6 5 = nI (msk (fun k => kz s k 3) (x + 1)) → AW Γ 4 iX3_readObject (fun _ g' => RoP s (x + 1) g' ∧ frR g g') 71 [some (.inr 6), some (.inr 34), some (.inl (nI x))] [] g' := by
    intro g' e1 e6 e66 e7 e7x e9 e10 e5
    refine sg_X3_readObject_71 s _ ?_
    rw [hz_nI h.2 (by omega), e66, r6]
    refine ⟨⟨h.1.ext (fun k k1 k2 => e1 k (by omega) (by omega) (by omega) (by omega)), h.2⟩, fun c => ?_, fun c => ?_⟩
    · rw [bi_eq0] at c
      refine s92 g' e1 e6 e7 e7x e9 e10 e5 ?_
      rw [e66, or0 c]
      exact r6
    · rw [bi_ne0] at c
      rw [or1 (by omega) c]
      refine s92 _ (fun k k1 k2 k3 k4 => by rw [up_ne k1, e1 k k1 k2 k3 k4]) (fun j hj => by rw [up_nx (by omega), e6 j hj]) (fun j hj => by rw [up_ne (by decide), e7 j hj]) (by rw [up_ne (by decide)]; exact e7x) (fun j hj => by rw [up_ne (by decide)]; exact e9 j hj) (fun j hj => by rw [up_ne (by decide)]; exact e10 j hj) (by rw [up_nx (by decide)]; exact e5) (up_at _ _ _ _)
  -- from 36
  have s36 : ∀ g', (∀ k, k ≠ 7 → k ≠ 9 → g' k = g k) → (∀ j, j ≠ x → g' 7 j = g 7 j) → g' 7 x = g 37 x → (∀ j, j < s 0 → g' 9 j = nI (msk (pw s j) (x + 1))) → AW Γ 4 iX3_readObject (fun _ g' => RoP s (x + 1) g' ∧ frR g g') 36 [some (.inr 6), some (.inr 34), some (.inl (nI x)), some (.inl (g 37 x))] [] g' := by
    intro g' e1 e7 e7x e9
    refine sg_X3_readObject_36 s _ _ ?_
    rw [show (3 : Int32) = nI 3 from rfl, kz_nI h.2 (by omega) (by decide), e1 6 (by decide) (by decide), e1 10 (by decide) (by decide), r5]
    refine ⟨⟨h.1.ext (fun k k1 k2 => e1 k (by omega) (by omega)), h.2⟩, fun c => ?_, fun c => ?_⟩
    · rw [bi_eq0] at c
      refine s71 g' (fun k k1 k2 k3 k4 => e1 k k2 k3) (fun j hj => by rw [e1 6 (by decide) (by decide)]) (by rw [e1 6 (by decide) (by decide)]) e7 e7x e9 (fun j hj => ?_) ?_
      · rw [or0 (p := pk s j) (by simp [pk, c]), e1 10 (by decide) (by decide)]
        exact (rw_ j hj).2
      · rw [or0 (p := fun k => kz s k 3) c, e1 6 (by decide) (by decide)]
        exact r5
    · rw [bi_ne0] at c
      have hk3 := (kz_t.mp c).2
      have hp := (ho.2.2.2.2.2 hk3).1
      rw [show g 37 x = nI (s (11 + x)) from t3 hk3, ix_nI (n := s (11 + x)) (by omega), or1 (p := fun k => kz s k 3) (by omega) c, (rw_ _ hp).2]
      refine ⟨vp_nI (by omega) (by decide), vp_nI (by omega) (by decide), s71 _ (fun k k1 k2 k3 k4 => by rw [up_ne k1, up_ne k4, e1 k k2 k3]) (fun j hj => by rw [up_nx (by omega), up_ne (by decide), e1 6 (by decide) (by decide)]) (by rw [up_nx (by decide), up_ne (by decide), e1 6 (by decide) (by decide)]) (fun j hj => by rw [up_ne (by decide), up_ne (by decide), e7 j hj]) (by rw [up_ne (by decide), up_ne (by decide)]; exact e7x) (fun j hj => by rw [up_ne (by decide), up_ne (by decide)]; exact e9 j hj) (fun j hj => ?_) (up_at _ _ _ _)⟩
      rw [up_ne (by decide)]
      by_cases e : j = s (11 + x)
      · subst e
        rw [up_at, or1 (p := pk s (s (11 + x))) (by omega) (by simp [pk, c])]
      · rw [up_nx e, or0 (p := pk s j) (by simp [pk]; intro _ q; exact e q.symm), e1 10 (by decide) (by decide)]
        exact (rw_ j hj).2
  refine Runs.intro (by decide) rfl (Nat.le_of_ble_eq_true rfl) (sg_X3_readObject_0 s _ ?_)
  rw [ix_nI (n := x) (by omega), show (1 : Int32) = nI 1 from rfl, kz_nI h.2 (by omega) (by decide)]
  refine ⟨vp_nI (by omega) (by decide), vp_nI (by omega) (by decide), ⟨h.1.ext (fun k k1 k2 => up_ne (by omega)), h.2⟩, fun c => ?_, fun c => ?_⟩
  · rw [bi_eq0] at c
    refine s36 _ (fun k k1 k2 => up_ne k1) (fun j hj => up_nx hj) (up_at _ _ _ _) (fun j hj => ?_)
    rw [up_ne (by decide), or0 (p := pw s j) (by simp [pw, c])]
    exact (rw_ j hj).1
  · rw [bi_ne0] at c
    have hk1 := (kz_t.mp c).2
    have hp := (ho.2.2.2.1 hk1).2
    have eT : g 37 x = nI (s (21 + x)) := t1 hk1
    have s36' := s36
    rw [eT] at s36' ⊢
    rw [ix_nI (n := s (21 + x)) (by omega), (rw_ _ hp).1, show nI 1 = (1 : Int32) from rfl]
    refine ⟨vp_nI (by omega) (by decide), vp_nI (by omega) (by decide), s36' _ (fun k k1 k2 => by rw [up_ne k2, up_ne k1]) (fun j hj => by rw [up_ne (by decide), up_nx hj]) (by rw [up_ne (by decide), up_at]) (fun j hj => ?_)⟩
    by_cases e : j = s (21 + x)
    · subst e
      rw [up_at, or1 (p := pw s (s (21 + x))) (by omega) (by simp [pw, c])]
    · rw [up_nx e, or0 (p := pw s j) (by simp [pw]; intro _ q; exact e q.symm), up_ne (by decide)]
      exact (rw_ j hj).1
theorem sg_X3_readFrom_0 {Γ : Gam} {P : Int32 → Mem → Prop}  {g : Mem} (h : (Runs Γ 4 yX3_agentsWith iX3_agentsWith [.inr 34, .inl 1] (up g 6 0 (g 34 0)) (fun r1 g1 => (Runs Γ 4 yX3_agentsWith iX3_agentsWith [.inr 34, .inl 2] (up g1 6 1 r1) (fun r2 g2 => (Runs Γ 4 yX3_agentsWith iX3_agentsWith [.inr 34, .inl 4] (up g2 6 2 r2) (fun r3 g3 => (Runs Γ 4 yX3_agentsWith iX3_agentsWith [.inr 34, .inl 8] (up g3 6 3 r3) (fun r4 g4 => AW Γ 5 iX3_readFrom P 73 [some (.inr 6), some (.inr 34), some (.inl 0)] [] (fil (fil (up (up (up g4 6 4 r4) 6 5 0) 6 6 0) 9 10 0) 10 10 0)))))))))) : AW Γ 5 iX3_readFrom P 0 [some (.inr 6), some (.inr 34)] [] g :=
  (aw_aload_n dX3_readFrom_0 rfl (aw_aload_n dX3_readFrom_1 rfl (aw_geti fkX3_49 (fs_0 isSt_34) dX3_readFrom_2 (aw_putf fpX3_9 fa_6_0 (vp_nar_int _) rfl dX3_readFrom_5 (aw_aload_n dX3_readFrom_8 rfl (aw_aload_n dX3_readFrom_9 rfl (aw_iconst 1 dX3_readFrom_10 (by decide) (aw_callSi lkX3_52 ckX3_agentsWith (d := 4) (by decide) [.inr 34, .inl 1] rfl rfl (Nat.le_of_ble_eq_true rfl) dX3_readFrom_11 rfl (Runs.mono h (fun r1 g1 h1_ => (aw_putf fpX3_15 fa_6_1 (vp_nar_int _) rfl dX3_readFrom_14 (aw_aload_n dX3_readFrom_17 rfl (aw_aload_n dX3_readFrom_18 rfl (aw_iconst 2 dX3_readFrom_19 (by decide) (aw_callSi lkX3_52 ckX3_agentsWith (d := 4) (by decide) [.inr 34, .inl 2] rfl rfl (Nat.le_of_ble_eq_true rfl) dX3_readFrom_20 rfl (Runs.mono h1_ (fun r2 g2 h2_ => (aw_putf fpX3_18 fa_6_2 (vp_nar_int _) rfl dX3_readFrom_23 (aw_aload_n dX3_readFrom_26 rfl (aw_aload_n dX3_readFrom_27 rfl (aw_iconst 4 dX3_readFrom_28 (by decide) (aw_callSi lkX3_52 ckX3_agentsWith (d := 4) (by decide) [.inr 34, .inl 4] rfl rfl (Nat.le_of_ble_eq_true rfl) dX3_readFrom_29 rfl (Runs.mono h2_ (fun r3 g3 h3_ => (aw_putf fpX3_21 fa_6_3 (vp_nar_int _) rfl dX3_readFrom_32 (aw_aload_n dX3_readFrom_35 rfl (aw_aload_n dX3_readFrom_36 rfl (aw_bipush 8 dX3_readFrom_37 (by decide) (aw_callSi lkX3_52 ckX3_agentsWith (d := 4) (by decide) [.inr 34, .inl 8] rfl rfl (Nat.le_of_ble_eq_true rfl) dX3_readFrom_39 rfl (Runs.mono h3_ (fun r4 g4 h4_ => (aw_putf fpX3_24 fa_6_4 (vp_nar_int _) rfl dX3_readFrom_42 (aw_aload_n dX3_readFrom_45 rfl (aw_iconst 0 dX3_readFrom_46 (by decide) (aw_putf fpX3_27 fa_6_5 (vp_nar_int _) rfl dX3_readFrom_47 (aw_aload_n dX3_readFrom_50 rfl (aw_iconst 0 dX3_readFrom_51 (by decide) (aw_putf fpX3_30 fa_6_6 (vp_nar_int _) rfl dX3_readFrom_52 (aw_aload_n dX3_readFrom_55 rfl (aw_getr 9 fkX3_40 fa_6_9 dX3_readFrom_56 (aw_iconst 0 dX3_readFrom_59 (by decide) (aw_callSv lkX3_56 ckJ7_fill_53178 (d := 1) (by decide) [.inr 9, .inl 0] rfl rfl (Nat.le_of_ble_eq_true rfl) dX3_readFrom_60 rfl (Runs.fn (ct_J7_fill aa_9 (by decide)) (aw_aload_n dX3_readFrom_63 rfl (aw_getr 10 fkX3_43 fa_6_10 dX3_readFrom_64 (aw_iconst 0 dX3_readFrom_67 (by decide) (aw_callSv lkX3_56 ckJ7_fill_53178 (d := 1) (by decide) [.inr 10, .inl 0] rfl rfl (Nat.le_of_ble_eq_true rfl) dX3_readFrom_68 rfl (Runs.fn (ct_J7_fill aa_10 (by decide)) (aw_iconst 0 dX3_readFrom_71 (by decide) (aw_istore_n [some (.inr 6), some (.inr 34), some (.inl 0)] dX3_readFrom_72 (by decide) rfl (aw_mask [true, true, true] rfl h4_)))))))))))))))))))))))))))))))))))))))))))))))))))
theorem sg_X3_readFrom_73 {Γ : Gam} {P : Int32 → Mem → Prop}  (a2 : Int32) {g : Mem} (h : (((g 6 0) ≤ a2 → P 0 g) ∧ (¬ ((g 6 0) ≤ a2) → (Runs Γ 4 yX3_readObject iX3_readObject [.inr 6, .inr 34, .inl a2] g (fun r1 g1 => AW Γ 5 iX3_readFrom P 73 [some (.inr 6), some (.inr 34), some (.inl (a2 + 1))] [] g1))))) : AW Γ 5 iX3_readFrom P 73 [some (.inr 6), some (.inr 34), some (.inl a2)] [] g :=
  (aw_iload_n dX3_readFrom_73 rfl (aw_aload_n dX3_readFrom_74 rfl (aw_geti fkX3_9 fa_6_0 dX3_readFrom_75 (aw_icmp_ge 93 dX3_readFrom_78 (by decide) (fun c1 => (aw_vret rfl dX3_readFrom_93 (h.1 c1))) (fun c1 => (aw_aload_n dX3_readFrom_81 rfl (aw_aload_n dX3_readFrom_82 rfl (aw_iload_n dX3_readFrom_83 rfl (aw_callVv lkX3_62 ckX3_readObject ca_6 rfl (d := 4) (by decide) [.inr 34, .inl a2] rfl rfl (Nat.le_of_ble_eq_true rfl) dX3_readFrom_84 rfl (Runs.mono (h.2 c1) (fun r1 g1 h1_ => (aw_iinc (a2 + 1) [some (.inr 6), some (.inr 34), some (.inl (a2 + 1))] dX3_readFrom_87 rfl (by rfl) (by decide) rfl (aw_goto 73 dX3_readFrom_90 (by decide) (aw_mask [true, true, true] rfl h1_))))))))))))))
theorem lp_X3_readFrom {Γ : Gam} {P : Int32 → Mem → Prop} {s : St} {g : Mem} (h : CW 34 s g) (hP : ∀ g', RoP s (s 0) g' → frR g g' → P 0 g') : ∀ n x g', x + n = s 0 → RoP s x g' → frR g g' → AW Γ 5 iX3_readFrom P 73 [some (.inr 6), some (.inr 34), some (.inl (nI x))] [] g' := by
  intro n
  have hn := h.2.n
  induction n with
  | zero =>
    intro x g' hx hR hf
    refine sg_X3_readFrom_73 _ ?_
    rw [hR.1]
    rw [show x = s 0 by omega] at hR ⊢
    exact ⟨fun _ => hP g' hR hf, fun c => absurd (nI_le (by omega) (by omega)) c⟩
  | succ n ih =>
    intro x g' hx hR hf
    refine sg_X3_readFrom_73 _ ?_
    rw [hR.1, nI_1]
    refine ⟨fun c => absurd c (nI_ge (by omega) (by omega)), fun _ => ?_⟩
    exact (ct_X3_readObject ⟨h.1.ext (fun k k1 k2 => hf.1 k (by omega)), h.2⟩ hR (by omega)).mono (fun _ g2 q => ih (x + 1) g2 (by omega) q.1 (hf.trans q.2))
theorem ct_X3_readFrom {Γ : Gam} {s : St} {g : Mem} (h : CW 34 s g) : Runs Γ 5 yX3_readFrom iX3_readFrom [.inr 6, .inr 34] g (fun _ g' => RolesOk s g' ∧ ∀ k, (k < 6 ∨ 11 < k) → g' k = g k) := by
  have e0 : g 34 0 = nI (s 0) := h.1.1
  have hS : ∀ g' : Mem, (∀ k, (k < 6 ∨ 11 < k) → g' k = g k) → CW 34 s g' := fun g' f => ⟨h.1.ext (fun k k1 k2 => f k (by omega)), h.2⟩
  have u6 : ∀ (g' : Mem) j v, (∀ k, (k < 6 ∨ 11 < k) → g' k = g k) → ∀ k, (k < 6 ∨ 11 < k) → up g' 6 j v k = g k := fun g' j v f k hk => by rw [up_ne (by omega), f k hk]
  refine Runs.intro (by decide) rfl (Nat.le_of_ble_eq_true rfl) (sg_X3_readFrom_0 ?_)
  rw [e0]
  have f1 := u6 g 0 (nI (s 0)) (fun _ _ => rfl)
  refine Runs.fn (ct_X3_agentsWith (f := 1) (hS _ f1) (by decide)) ?_
  have f2 := u6 _ 1 (nI (msk (fun x => dz s x 1) (s 0))) f1
  refine Runs.fn (ct_X3_agentsWith (f := 2) (hS _ f2) (by decide)) ?_
  have f3 := u6 _ 2 (nI (msk (fun x => dz s x 2) (s 0))) f2
  refine Runs.fn (ct_X3_agentsWith (f := 4) (hS _ f3) (by decide)) ?_
  have f4 := u6 _ 3 (nI (msk (fun x => dz s x 4) (s 0))) f3
  refine Runs.fn (ct_X3_agentsWith (f := 8) (hS _ f4) (by decide)) ?_
  have f5 := u6 _ 4 (nI (msk (fun x => dz s x 8) (s 0))) f4
  generalize eg : up (up (up (up (up g 6 0 (nI (s 0))) 6 1 (nI (msk (fun x => dz s x 1) (s 0)))) 6 2 (nI (msk (fun x => dz s x 2) (s 0)))) 6 3 (nI (msk (fun x => dz s x 4) (s 0)))) 6 4 (nI (msk (fun x => dz s x 8) (s 0))) = g4 at f5 ⊢
  have v0 : g4 6 0 = nI (s 0) := by rw [← eg]; simp [up, upd]
  have v1 : g4 6 1 = nI (msk (fun x => dz s x 1) (s 0)) := by rw [← eg]; simp [up, upd]
  have v2 : g4 6 2 = nI (msk (fun x => dz s x 2) (s 0)) := by rw [← eg]; simp [up, upd]
  have v3 : g4 6 3 = nI (msk (fun x => dz s x 4) (s 0)) := by rw [← eg]; simp [up, upd]
  have v4 : g4 6 4 = nI (msk (fun x => dz s x 8) (s 0)) := by rw [← eg]; simp [up, upd]
  have hn := h.2.n
  have w6 : ∀ j, j < 5 → fil (fil (up (up g4 6 5 0) 6 6 0) 9 10 0) 10 10 0 6 j = g4 6 j := fun j hj => by rw [fil_ne (by decide), fil_ne (by decide), up_nx (by omega), up_nx (by omega)]
  generalize eg9 : fil (fil (up (up g4 6 5 0) 6 6 0) 9 10 0) 10 10 0 = g9 at w6 ⊢
  have f9 : ∀ k, (k < 6 ∨ 11 < k) → g9 k = g k := by
    intro k hk
    rw [← eg9, fil_ne (by omega), fil_ne (by omega), up_ne (by omega), up_ne (by omega), f5 k hk]
  have hR0 : RoP s 0 g9 := by
    refine ⟨?_, ?_, ?_, fun j hj => absurd hj (Nat.not_lt_zero _), fun j hj => ?_⟩
    · rw [w6 0 (by decide)]; exact v0
    · rw [← eg9, fil_ne (by decide), fil_ne (by decide), up_nx (by decide), up_at]; rfl
    · rw [← eg9, fil_ne (by decide), fil_ne (by decide), up_at]; rfl
    · rw [← eg9, fil_at (by omega), fil_ne (by decide), fil_at (by omega)]
      exact ⟨rfl, rfl⟩
  have hE : ∀ g', RoP s (s 0) g' → frR g9 g' → RolesOk s g' ∧ ∀ k, (k < 6 ∨ 11 < k) → g' k = g k := by
    intro g' hR hf
    refine ⟨⟨hR.1, ?_, ?_, ?_, ?_, hR.2.1, hR.2.2.1, fun x hx => ⟨(hR.2.2.2.1 x hx).1, (hR.2.2.2.1 x hx).2.1, (hR.2.2.2.2 x hx).1, (hR.2.2.2.2 x hx).2, (hR.2.2.2.1 x hx).2.2⟩⟩, fun k hk => ?_⟩
    · rw [hf.2 1 (by decide) (by decide), w6 1 (by decide)]; exact v1
    · rw [hf.2 2 (by decide) (by decide), w6 2 (by decide)]; exact v2
    · rw [hf.2 3 (by decide) (by decide), w6 3 (by decide)]; exact v3
    · rw [hf.2 4 (by decide) (by decide), w6 4 (by decide)]; exact v4
    · rw [hf.1 k hk, f9 k hk]
  exact lp_X3_readFrom (hS g9 f9) hE (s 0) 0 g9 (by omega) hR0 ⟨fun _ _ => rfl, fun _ _ _ => rfl⟩
