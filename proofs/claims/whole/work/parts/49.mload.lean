/-! The reference's load. -/
def RP (x : Sum Nat St) (g' : Mem) : Prop := match x with
  | .inl e => g' 26 11 = nI e ∧ e ≤ 160
  | .inr s' => g' 26 11 = -9 ∧ MA 28 s' g'
section RL
variable {Γ : Gam} {P : Int32 → Mem → Prop} {L : Nat} {c : Nat → Nat} {g0 : Mem}
theorem sg_X7_load_0 {Γ : Gam} {P : Int32 → Mem → Prop}  {g : Mem} (h : AW Γ 7 iX7_load P 7 [some (.inr 26), some (.inl 0)] [] (up g 26 0 0)) : AW Γ 7 iX7_load P 0 [some (.inr 26)] [] g :=
  (aw_aload_n dX7_load_0 rfl (aw_iconst 0 dX7_load_1 (by decide) (aw_putf fpX7_32 fa_26_0 (vp_nar_int _) rfl dX7_load_2 (aw_iconst 0 dX7_load_5 (by decide) (aw_istore_n [some (.inr 26), some (.inl 0)] dX7_load_6 (by decide) rfl (aw_mask [true, true] rfl h))))))
theorem sg_X7_load_7 {Γ : Gam} {P : Int32 → Mem → Prop}  (a1 : Int32) {g : Mem} (h : ((81 ≤ a1 → (Runs Γ 3 yX7_advance iX7_advance [.inr 26] (up (up g 26 11 (-9)) 26 7 0) (fun r1 g1 => AW Γ 7 iX7_load P 41 [some (.inr 26)] [] g1))) ∧ (¬ (81 ≤ a1) → (vp_in a1 81 ∧ AW Γ 7 iX7_load P 7 [some (.inr 26), some (.inl (a1 + 1))] [] (up g 28 a1.toNatClampNeg 0))))) : AW Γ 7 iX7_load P 7 [some (.inr 26), some (.inl a1)] [] g :=
  (aw_iload_n dX7_load_7 rfl (aw_bipush 81 dX7_load_8 (by decide) (aw_icmp_ge 26 dX7_load_10 (by decide) (fun c1 => (aw_aload_n dX7_load_26 rfl (aw_bipush (-9) dX7_load_27 (by decide) (aw_putf fpX7_67 fa_26_11 (vp_nar_int _) rfl dX7_load_29 (aw_aload_n dX7_load_32 rfl (aw_iconst 0 dX7_load_33 (by decide) (aw_putf fpX7_42 fa_26_7 (vp_nar_int _) rfl dX7_load_34 (aw_aload_n dX7_load_37 rfl (aw_callVv lkX7_74 ckX7_advance ca_26 rfl (d := 3) (by decide) [] rfl rfl (Nat.le_of_ble_eq_true rfl) dX7_load_38 rfl (Runs.mono (h.1 c1) (fun r1 g1 h1_ => (aw_mask [true] rfl h1_)))))))))))) (fun c1 => (aw_aload_n dX7_load_13 rfl (aw_getr 28 fkX7_13 fa_26_2 dX7_load_14 (aw_iload_n dX7_load_17 rfl (aw_iconst 0 dX7_load_18 (by decide) (aw_iast aa_28 dX7_load_19 (h.2 c1).1 (aw_iinc (a1 + 1) [some (.inr 26), some (.inl (a1 + 1))] dX7_load_20 rfl (by rfl) (by decide) rfl (aw_goto 7 dX7_load_23 (by decide) (aw_mask [true, true] rfl (h.2 c1).2))))))))))))
theorem sg_X7_load_41 {Γ : Gam} {P : Int32 → Mem → Prop}  {g : Mem} (h : (Runs Γ 1 yX7_isFine iX7_isFine [.inr 26] g (fun r1 g1 => ((r1 = 0 → AW Γ 7 iX7_load P 181 [some (.inr 26)] [] g1) ∧ (¬ r1 = 0 → (((g1 26 9) = 0 → AW Γ 7 iX7_load P 181 [some (.inr 26)] [] g1) ∧ (¬ (g1 26 9) = 0 → ((¬ (g1 26 10) = 4 → ((10 ≤ (g1 28 0) → AW Γ 7 iX7_load P 99 [some (.inr 26)] [.inl 0] g1) ∧ (¬ (10 ≤ (g1 28 0)) → AW Γ 7 iX7_load P 99 [some (.inr 26)] [.inl 1] g1))) ∧ ((g1 26 10) = 4 → ((10 ≤ (g1 28 41) → AW Γ 7 iX7_load P 99 [some (.inr 26)] [.inl 0] g1) ∧ (¬ (10 ≤ (g1 28 41)) → AW Γ 7 iX7_load P 99 [some (.inr 26)] [.inl 1] g1))))))))))) : AW Γ 7 iX7_load P 41 [some (.inr 26)] [] g :=
  (aw_aload_n dX7_load_41 rfl (aw_callVi lkX7_70 ckX7_isFine ca_26 rfl (d := 1) (by decide) [] rfl rfl (Nat.le_of_ble_eq_true rfl) dX7_load_42 rfl (Runs.mono h (fun r1 g1 h1_ => (aw_if_eq 181 dX7_load_45 (by decide) (fun c1 => (aw_mask [true] rfl (h1_.1 c1))) (fun c1 => (aw_aload_n dX7_load_48 rfl (aw_geti fkX7_53 fa_26_9 dX7_load_49 (aw_if_eq 181 dX7_load_52 (by decide) (fun c2 => (aw_mask [true] rfl ((h1_.2 c1).1 c2))) (fun c2 => (aw_aload_n dX7_load_55 rfl (aw_geti fkX7_64 fa_26_10 dX7_load_56 (aw_iconst 4 dX7_load_59 (by decide) (aw_icmp_ne 83 dX7_load_60 (by decide) (fun c3 => (aw_aload_n dX7_load_83 rfl (aw_getr 28 fkX7_13 fa_26_2 dX7_load_84 (aw_iconst 0 dX7_load_87 (by decide) (aw_iald aa_28 dX7_load_88 (vp_lit 0 (by decide) (by decide)) (aw_bipush 10 dX7_load_89 (by decide) (aw_icmp_ge 98 dX7_load_91 (by decide) (fun c4 => (aw_iconst 0 dX7_load_98 (by decide) (aw_mask [true] rfl ((((h1_.2 c1).2 c2).1 c3).1 c4)))) (fun c4 => (aw_iconst 1 dX7_load_94 (by decide) (aw_goto 99 dX7_load_95 (by decide) (aw_mask [true] rfl ((((h1_.2 c1).2 c2).1 c3).2 c4)))))))))))) (fun c3 => (aw_aload_n dX7_load_63 rfl (aw_getr 28 fkX7_13 fa_26_2 dX7_load_64 (aw_bipush 41 dX7_load_67 (by decide) (aw_iald aa_28 dX7_load_69 (vp_lit 41 (by decide) (by decide)) (aw_bipush 10 dX7_load_70 (by decide) (aw_icmp_ge 79 dX7_load_72 (by decide) (fun c5 => (aw_iconst 0 dX7_load_79 (by decide) (aw_goto 99 dX7_load_80 (by decide) (aw_mask [true] rfl ((((h1_.2 c1).2 c2).2 c3).1 c5))))) (fun c5 => (aw_iconst 1 dX7_load_75 (by decide) (aw_goto 99 dX7_load_76 (by decide) (aw_mask [true] rfl ((((h1_.2 c1).2 c2).2 c3).2 c5))))))))))))))))))))))))))
theorem sg_X7_load_181 {Γ : Gam} {P : Int32 → Mem → Prop}  {g : Mem} (h : (Runs Γ 1 yX7_isFine iX7_isFine [.inr 26] g (fun r1 g1 => ((¬ r1 = 0 → (Runs Γ 1 yX7_save iX7_save [.inr 26] g1 (fun r2 g2 => AW Γ 7 iX7_load P 202 [some (.inr 26), some (.inl 0)] [] g2))) ∧ (r1 = 0 → P ((-10) - (g1 26 11)) g1))))) : AW Γ 7 iX7_load P 181 [some (.inr 26)] [] g :=
  (aw_aload_n dX7_load_181 rfl (aw_callVi lkX7_70 ckX7_isFine ca_26 rfl (d := 1) (by decide) [] rfl rfl (Nat.le_of_ble_eq_true rfl) dX7_load_182 rfl (Runs.mono h (fun r1 g1 h1_ => (aw_if_ne 196 dX7_load_185 (by decide) (fun c1 => (aw_aload_n dX7_load_196 rfl (aw_callVv lkX7_99 ckX7_save ca_26 rfl (d := 1) (by decide) [] rfl rfl (Nat.le_of_ble_eq_true rfl) dX7_load_197 rfl (Runs.mono (h1_.1 c1) (fun r2 g2 h2_ => (aw_iconst 0 dX7_load_200 (by decide) (aw_istore_n [some (.inr 26), some (.inl 0)] dX7_load_201 (by decide) rfl (aw_mask [true, true] rfl h2_)))))))) (fun c1 => (aw_bipush (-10) dX7_load_188 (by decide) (aw_aload_n dX7_load_190 rfl (aw_geti fkX7_67 fa_26_11 dX7_load_191 (aw_isub dX7_load_194 (aw_iret rfl (vp_nar_int _) dX7_load_195 (h1_.2 c1))))))))))))
theorem sg_X7_load_99 {Γ : Gam} {P : Int32 → Mem → Prop}  (v0 : Int32) {g : Mem} (h : ((¬ (g 26 9) = 1 → AW Γ 7 iX7_load P 124 [some (.inr 26)] [.inr 26] g) ∧ ((g 26 9) = 1 → (((g 26 10) < 0 → AW Γ 7 iX7_load P 124 [some (.inr 26)] [.inr 26] g) ∧ (¬ ((g 26 10) < 0) → ((v0 = 0 → AW Γ 7 iX7_load P 124 [some (.inr 26)] [.inr 26] g) ∧ (¬ v0 = 0 → AW Γ 7 iX7_load P 125 [some (.inr 26)] [.inl 1, .inr 26] g))))))) : AW Γ 7 iX7_load P 99 [some (.inr 26)] [.inl v0] g :=
  (aw_istore_n [some (.inr 26), some (.inl v0)] dX7_load_99 (by decide) rfl (aw_aload_n dX7_load_100 rfl (aw_aload_n dX7_load_101 rfl (aw_geti fkX7_53 fa_26_9 dX7_load_102 (aw_iconst 1 dX7_load_105 (by decide) (aw_icmp_ne 124 dX7_load_106 (by decide) (fun c1 => (aw_mask [true] rfl (h.1 c1))) (fun c1 => (aw_aload_n dX7_load_109 rfl (aw_geti fkX7_64 fa_26_10 dX7_load_110 (aw_if_lt 124 dX7_load_113 (by decide) (fun c2 => (aw_mask [true] rfl ((h.2 c1).1 c2))) (fun c2 => (aw_iload_n dX7_load_116 rfl (aw_if_eq 124 dX7_load_117 (by decide) (fun c3 => (aw_mask [true] rfl (((h.2 c1).2 c2).1 c3))) (fun c3 => (aw_iconst 1 dX7_load_120 (by decide) (aw_goto 125 dX7_load_121 (by decide) (aw_mask [true] rfl (((h.2 c1).2 c2).2 c3))))))))))))))))))
theorem sg_X7_load_202 {Γ : Gam} {P : Int32 → Mem → Prop}  (a1 : Int32) {g : Mem} (h : ((81 ≤ a1 → (Runs Γ 1 yX7_beginRun iX7_beginRun [.inr 26] g (fun r1 g1 => P (g1 27 0) (up g1 26 6 0)))) ∧ (¬ (81 ≤ a1) → (vp_in a1 81 ∧ (vp_in a1 81 ∧ AW Γ 7 iX7_load P 202 [some (.inr 26), some (.inl (a1 + 1))] [] (up g 27 a1.toNatClampNeg (g 28 a1.toNatClampNeg))))))) : AW Γ 7 iX7_load P 202 [some (.inr 26), some (.inl a1)] [] g :=
  (aw_iload_n dX7_load_202 rfl (aw_bipush 81 dX7_load_203 (by decide) (aw_icmp_ge 226 dX7_load_205 (by decide) (fun c1 => (aw_aload_n dX7_load_226 rfl (aw_callVv lkX7_102 ckX7_beginRun ca_26 rfl (d := 1) (by decide) [] rfl rfl (Nat.le_of_ble_eq_true rfl) dX7_load_227 rfl (Runs.mono (h.1 c1) (fun r1 g1 h1_ => (aw_aload_n dX7_load_230 rfl (aw_iconst 0 dX7_load_231 (by decide) (aw_putf fpX7_36 fa_26_6 (vp_nar_int _) rfl dX7_load_232 (aw_aload_n dX7_load_235 rfl (aw_getr 27 fkX7_7 fa_26_1 dX7_load_236 (aw_iconst 0 dX7_load_239 (by decide) (aw_iald aa_27 dX7_load_240 (vp_lit 0 (by decide) (by decide)) (aw_iret rfl (vp_nar_int _) dX7_load_241 h1_))))))))))))) (fun c1 => (aw_aload_n dX7_load_208 rfl (aw_getr 27 fkX7_7 fa_26_1 dX7_load_209 (aw_iload_n dX7_load_212 rfl (aw_aload_n dX7_load_213 rfl (aw_getr 28 fkX7_13 fa_26_2 dX7_load_214 (aw_iload_n dX7_load_217 rfl (aw_iald aa_28 dX7_load_218 (h.2 c1).1 (aw_iast aa_27 dX7_load_219 (h.2 c1).2.1 (aw_iinc (a1 + 1) [some (.inr 26), some (.inl (a1 + 1))] dX7_load_220 rfl (by rfl) (by decide) rfl (aw_goto 202 dX7_load_223 (by decide) (aw_mask [true, true] rfl (h.2 c1).2.2)))))))))))))))
theorem sg_X7_load_124 {Γ : Gam} {P : Int32 → Mem → Prop}  {g : Mem} (h : AW Γ 7 iX7_load P 125 [some (.inr 26)] [.inl 0, .inr 26] g) : AW Γ 7 iX7_load P 124 [some (.inr 26)] [.inr 26] g :=
  (aw_iconst 0 dX7_load_124 (by decide) (aw_mask [true] rfl h))
theorem sg_X7_load_125 {Γ : Gam} {P : Int32 → Mem → Prop}  (v0 : Int32) {g : Mem} (h : (Runs Γ 4 yX7_take iX7_take [.inr 26, .inl v0] g (fun r1 g1 => (Runs Γ 1 yX7_isFine iX7_isFine [.inr 26] g1 (fun r2 g2 => ((r2 = 0 → AW Γ 7 iX7_load P 148 [some (.inr 26), none, some (.inl r1)] [] g2) ∧ (¬ r2 = 0 → ((¬ r1 = 4 → AW Γ 7 iX7_load P 148 [some (.inr 26), none, some (.inl r1)] [] g2) ∧ (r1 = 4 → (Runs Γ 5 yX7_readHold iX7_readHold [.inr 26] g2 (fun r3 g3 => AW Γ 7 iX7_load P 160 [some (.inr 26)] [] g3))))))))))) : AW Γ 7 iX7_load P 125 [some (.inr 26)] [.inl v0, .inr 26] g :=
  (aw_callVi lkX7_77 ckX7_take ca_26 rfl (d := 4) (by decide) [.inl v0] rfl rfl (Nat.le_of_ble_eq_true rfl) dX7_load_125 rfl (Runs.mono h (fun r1 g1 h1_ => (aw_istore_n [some (.inr 26), none, some (.inl r1)] dX7_load_128 (by decide) rfl (aw_aload_n dX7_load_129 rfl (aw_callVi lkX7_70 ckX7_isFine ca_26 rfl (d := 1) (by decide) [] rfl rfl (Nat.le_of_ble_eq_true rfl) dX7_load_130 rfl (Runs.mono h1_ (fun r2 g2 h2_ => (aw_if_eq 148 dX7_load_133 (by decide) (fun c1 => (aw_mask [true, false, true] rfl (h2_.1 c1))) (fun c1 => (aw_iload_n dX7_load_136 rfl (aw_iconst 4 dX7_load_137 (by decide) (aw_icmp_ne 148 dX7_load_138 (by decide) (fun c2 => (aw_mask [true, false, true] rfl ((h2_.2 c1).1 c2))) (fun c2 => (aw_aload_n dX7_load_141 rfl (aw_callVv lkX7_92 ckX7_readHold ca_26 rfl (d := 5) (by decide) [] rfl rfl (Nat.le_of_ble_eq_true rfl) dX7_load_142 rfl (Runs.mono ((h2_.2 c1).2 c2) (fun r3 g3 h3_ => (aw_goto 160 dX7_load_145 (by decide) (aw_mask [true] rfl h3_))))))))))))))))))))
theorem sg_X7_load_148 {Γ : Gam} {P : Int32 → Mem → Prop}  (a2 : Int32) {g : Mem} (h : (Runs Γ 1 yX7_isFine iX7_isFine [.inr 26] g (fun r1 g1 => ((r1 = 0 → AW Γ 7 iX7_load P 160 [some (.inr 26)] [] g1) ∧ (¬ r1 = 0 → (Runs Γ 6 yX7_readObject iX7_readObject [.inr 26, .inl a2] g1 (fun r2 g2 => AW Γ 7 iX7_load P 160 [some (.inr 26)] [] g2))))))) : AW Γ 7 iX7_load P 148 [some (.inr 26), none, some (.inl a2)] [] g :=
  (aw_aload_n dX7_load_148 rfl (aw_callVi lkX7_70 ckX7_isFine ca_26 rfl (d := 1) (by decide) [] rfl rfl (Nat.le_of_ble_eq_true rfl) dX7_load_149 rfl (Runs.mono h (fun r1 g1 h1_ => (aw_if_eq 160 dX7_load_152 (by decide) (fun c1 => (aw_mask [true] rfl (h1_.1 c1))) (fun c1 => (aw_aload_n dX7_load_155 rfl (aw_iload_n dX7_load_156 rfl (aw_callVv lkX7_95 ckX7_readObject ca_26 rfl (d := 6) (by decide) [.inl a2] rfl rfl (Nat.le_of_ble_eq_true rfl) dX7_load_157 rfl (Runs.mono (h1_.2 c1) (fun r2 g2 h2_ => (aw_mask [true] rfl h2_))))))))))))
theorem sg_X7_load_160 {Γ : Gam} {P : Int32 → Mem → Prop}  {g : Mem} (h : ((¬ (g 26 9) = 3 → (Runs Γ 4 yX7_take iX7_take [.inr 26, .inl 0] g (fun r1 g1 => AW Γ 7 iX7_load P 41 [some (.inr 26)] [] g1))) ∧ ((g 26 9) = 3 → (Runs Γ 4 yX7_take iX7_take [.inr 26, .inl 1] g (fun r2 g2 => AW Γ 7 iX7_load P 41 [some (.inr 26)] [] g2))))) : AW Γ 7 iX7_load P 160 [some (.inr 26)] [] g :=
  (aw_aload_n dX7_load_160 rfl (aw_aload_n dX7_load_161 rfl (aw_geti fkX7_53 fa_26_9 dX7_load_162 (aw_iconst 3 dX7_load_165 (by decide) (aw_icmp_ne 173 dX7_load_166 (by decide) (fun c1 => (aw_iconst 0 dX7_load_173 (by decide) (aw_callVi lkX7_77 ckX7_take ca_26 rfl (d := 4) (by decide) [.inl 0] rfl rfl (Nat.le_of_ble_eq_true rfl) dX7_load_174 rfl (Runs.mono (h.1 c1) (fun r1 g1 h1_ => (aw_pop dX7_load_177 (aw_goto 41 dX7_load_178 (by decide) (aw_mask [true] rfl h1_)))))))) (fun c1 => (aw_iconst 1 dX7_load_169 (by decide) (aw_goto 174 dX7_load_170 (by decide) (aw_callVi lkX7_77 ckX7_take ca_26 rfl (d := 4) (by decide) [.inl 1] rfl rfl (Nat.le_of_ble_eq_true rfl) dX7_load_174 rfl (Runs.mono (h.2 c1) (fun r2 g2 h2_ => (aw_pop dX7_load_177 (aw_goto 41 dX7_load_178 (by decide) (aw_mask [true] rfl h2_))))))))))))))
theorem ld_41e {g : Mem} (h : ¬ g 26 11 = -9) (hP : AW Γ 7 iX7_load P 181 [some (.inr 26)] [] g) : AW Γ 7 iX7_load P 41 [some (.inr 26)] [] g := by
  refine sg_X7_load_41 (Runs.fn ct_X7_isFine ?_)
  rw [fine_F h]
  exact ⟨fun _ => hP, fun z => absurd rfl z⟩
theorem ld_160e {g : Mem} (h : ¬ g 26 11 = -9) (hP : AW Γ 7 iX7_load P 181 [some (.inr 26)] [] g) : AW Γ 7 iX7_load P 160 [some (.inr 26)] [] g :=
  sg_X7_load_160 ⟨fun _ => take_err h (fun _ => ld_41e h hP), fun _ => take_err h (fun _ => ld_41e h hP)⟩
theorem ld_148e {g : Mem} {a : Int32} (h : ¬ g 26 11 = -9) (hP : AW Γ 7 iX7_load P 181 [some (.inr 26)] [] g) : AW Γ 7 iX7_load P 148 [some (.inr 26), none, some (.inl a)] [] g := by
  refine sg_X7_load_148 _ (Runs.fn ct_X7_isFine ?_)
  rw [fine_F h]
  exact ⟨fun _ => ld_160e h hP, fun z => absurd rfl z⟩
theorem ld_41 (hL : L ≤ 160) (hc : ∀ j, j < L → c j ≤ 255) : ∀ f i s g, L ≤ i + f → i ≤ L → g 26 11 = -9 → TM L c g → TkM L c i g → MA 28 s g → WF s → frP g0 g → (∀ g', frP g0 g' → RP (par L c f s i) g' → AW Γ 7 iX7_load P 181 [some (.inr 26)] [] g') → AW Γ 7 iX7_load P 41 [some (.inr 26)] [] g := by
  intro f
  induction f with
  | zero =>
    intro i s g hf hi h hM hT hA hw fr hP
    have hF := tF_le (c := c) hi
    have e0 : tT L c i = 0 := by unfold tT; rw [if_neg (by omega)]
    have e9 : g 26 9 = 0 := by rw [hT.2.2.1, (mT_n (k := 0) (by decide) (by decide)).mpr e0]; rfl
    rw [par] at hP
    refine sg_X7_load_41 (Runs.fn ct_X7_isFine ?_)
    rw [fine_T h]
    exact ⟨fun z => absurd z (by decide), fun _ => ⟨fun _ => hP g fr ⟨h, hA⟩, fun z => absurd e9 z⟩⟩
  | succ f ih =>
    intro i s g hf hi h hM hT hA hw fr hP
    have hF := tF_le (c := c) hi
    have hB := tB_le (c := c) hi
    have hm := mT_le (L := L) (c := c) (i := i)
    have hs0 := hw.n
    have hs1 := hw.nr
    have e9 : ∀ k, k ≠ 2 → k < 4 → (g 26 9 = nI k ↔ tT L c i = k) := fun k a b => by rw [hT.2.2.1, nI_eq (by omega) (by omega)]; exact mT_n a b
    rw [par] at hP
    refine sg_X7_load_41 (Runs.fn ct_X7_isFine ?_)
    rw [fine_T h]
    refine ⟨fun z => absurd z (by decide), fun _ => ⟨fun d => ?_, fun d => ?_⟩⟩
    · have e0 := (e9 0 (by decide) (by decide)).mp d
      rw [if_pos e0] at hP
      exact hP g fr ⟨h, hA⟩
    · have e0 : tT L c i ≠ 0 := fun z => d ((e9 0 (by decide) (by decide)).mpr z)
      rw [if_neg e0, stm_eq] at hP
      -- the word isn't allowed here
      have no : ¬ (tT L c i = 1 ∧ kwd c (tF L c i) (tB L c i) ≠ 9 ∧ full s (kwd c (tF L c i) (tB L c i)) = false) → AW Γ 7 iX7_load P 124 [some (.inr 26)] [.inr 26] g := by
        intro q
        rw [if_neg q] at hP
        refine sg_X7_load_124 (sg_X7_load_125 _ (take_no h (fun r => Runs.fn ct_X7_isFine ?_)))
        have e1 : up g 26 11 (g 26 8) 26 11 = nI (tF L c i) := by rw [up_at]; exact hT.1
        have e2 := err_ne (by omega) e1
        rw [fine_F e2]
        exact ⟨fun _ => ld_148e e2 (hP _ (fr.k (frK.e g _)) ⟨e1, by omega⟩), fun z => absurd rfl z⟩
      -- it is
      have yes : tT L c i = 1 → kwd c (tF L c i) (tB L c i) ≠ 9 → full s (kwd c (tF L c i) (tB L c i)) = false → AW Γ 7 iX7_load P 125 [some (.inr 26)] [.inl 1, .inr 26] g := by
        intro q1 q2 q3
        rw [if_pos ⟨q1, q2, q3⟩] at hP
        have ek := hT.2.2.2.1 q1
        have hK : kwd c (tF L c i) (tB L c i) ≤ 4 := by
          rcases kwd_le c (tF L c i) (tB L c i) with q | q
          · exact q
          · exact absurd q q2
        generalize kwd c (tF L c i) (tB L c i) = K at q2 q3 ek hK hP
        have ek2 : g 26 10 = nI K := by rw [ek]; unfold kwI; rw [if_neg q2]
        obtain ⟨fu1, fu2⟩ := full_F q3
        refine sg_X7_load_125 _ (take_yes hL hc hi hM hT h (fun g1 f1 e1 t1 => Runs.fn ct_X7_isFine ?_))
        rw [fine_T e1, ek2]
        have fr1 := fr.k f1
        have hM1 := hM.frK f1
        have hA1 := hA.frK f1
        -- behind the numbers
        have behind : ∀ g2, frP g1 g2 → RO L c s K (slt L c s K (nsl K) 0 (tB L c i) (fun _ => 0)) g2 → AW Γ 7 iX7_load P 160 [some (.inr 26)] [] g2 := by
          intro g2 f2 ro
          have fr2 := fr1.trans f2
          generalize ex : slt L c s K (nsl K) 0 (tB L c i) (fun _ => 0) = X at ro hP
          match X, ex, ro, hP with
          | .inl e, ex, ro, hP =>
            exact ld_160e (err_ne ro.2 ro.1) (hP g2 fr2 ro)
          | .inr (nn, j), ex, ro, hP =>
            have ro' : g2 26 11 = -9 ∧ TkM L c j g2 ∧ j ≤ L ∧ MA 28 (prf s K nn) g2 := ro
            obtain ⟨r1, r2, r3, r4⟩ := ro'
            have rF := tF_le (c := c) r3
            have rB := tB_le (c := c) r3
            have bj := (slt_le _ _ _ _ _ _ hB.2.1 ex).1
            have ac := (slt_acc _ _ _ _ _ _ ex).2
            have hlt := hB.2.2 (tT_lt e0)
            have r9 : g2 26 9 = 3 ↔ tT L c j = 3 := by rw [r2.2.2.1]; exact (nI_eq (b := 3) (by have := mT_le (L := L) (c := c) (i := j); omega) (by decide)).trans (mT_n (by decide) (by decide))
            have hM2 := hM1.frP f2
            unfold fin at hP
            dsimp only at hP
            refine sg_X7_load_160 ?_
            rw [r9]
            refine ⟨fun z => ?_, fun z => ?_⟩
            · rw [if_neg z] at hP
              have y1 : up g2 26 11 (g2 26 8) 26 11 = nI (tF L c j) := by rw [up_at]; exact r2.1
              exact take_no r1 (fun r => ld_41e (err_ne (by omega) y1) (hP _ (fr2.k (frK.e g2 _)) ⟨y1, by omega⟩))
            · rw [if_pos z] at hP
              refine take_yes hL hc r3 hM2 r2 r1 (fun g3 f3 e3 t3 => ?_)
              exact ih (tB L c j) (prf s K nn) g3 (by omega) rB.2.1 e3 (hM2.frK f3) t3 (r4.frK f3) (hw.pf hK q3 (fun m hm => ac m (Nat.zero_le _) (by omega))) (fr2.k f3) hP
        refine ⟨fun z => absurd z (by decide), fun _ => ⟨fun z => ?_, fun z => ?_⟩⟩
        · have k4 : K ≠ 4 := fun y => z (by rw [y]; rfl)
          refine sg_X7_load_148 _ (Runs.fn ct_X7_isFine ?_)
          rw [fine_T e1]
          exact ⟨fun z => absurd z (by decide), fun _ => (ct_readObject (K := K) (by omega) hL hc hB.2.1 hM1 t1 e1 hA1 hw (fu2 k4)).mono (fun r g2 q => behind g2 q.1 q.2)⟩
        · have k4 : K = 4 := (nI_eq (b := 4) (by omega) (by decide)).mp z
          subst k4
          exact (ct_readHold hL hc hB.2.1 hM1 t1 e1 hA1 hw (fu1 rfl)).mono (fun r g2 q => behind g2 q.1 q.2)
      have h99 : ∀ v : Int32, (tT L c i = 1 → kwd c (tF L c i) (tB L c i) ≠ 9 → (v = 0 ↔ full s (kwd c (tF L c i) (tB L c i)) = true)) → AW Γ 7 iX7_load P 99 [some (.inr 26)] [.inl v] g := by
        intro v hv
        refine sg_X7_load_99 v ?_
        have e91 : g 26 9 = 1 ↔ tT L c i = 1 := e9 1 (by decide) (by decide)
        rw [e91]
        refine ⟨fun d1 => no (fun q => d1 q.1), fun d1 => ?_⟩
        rw [hT.2.2.2.1 d1]
        unfold kwI
        by_cases k9 : kwd c (tF L c i) (tB L c i) = 9
        · rw [if_pos k9]
          exact ⟨fun _ => no (fun q => q.2.1 k9), fun z => absurd (by decide) z⟩
        · rw [if_neg k9]
          have hK : kwd c (tF L c i) (tB L c i) ≤ 4 := by
            rcases kwd_le c (tF L c i) (tB L c i) with q | q
            · exact q
            · exact absurd q k9
          refine ⟨fun z => ?_, fun _ => ⟨fun z => no (fun q => ?_), fun z => yes d1 k9 ?_⟩⟩
          · have := (nI_ltI (b := 0) (by omega) (by decide)).mp z
            omega
          · rw [(hv d1 k9).mp z] at q
            exact absurd q.2.2 (by decide)
          · cases hb : full s (kwd c (tF L c i) (tB L c i)) with
            | false => rfl
            | true => exact absurd ((hv d1 k9).mpr hb) z
      have ek : tT L c i = 1 → kwd c (tF L c i) (tB L c i) ≠ 9 → (g 26 10 = 4 ↔ kwd c (tF L c i) (tB L c i) = 4) := by
        intro q1 q2
        rcases kwd_le c (tF L c i) (tB L c i) with q | q
        · rw [hT.2.2.2.1 q1]
          unfold kwI
          rw [if_neg q2]
          exact nI_eq (b := 4) (by omega) (by decide)
        · exact absurd q q2
      rw [hA 0 (by decide), hA 41 (by decide)]
      have l0 : (10 : Int32) ≤ nI (s 0) ↔ 10 ≤ s 0 := nI_leI (a := 10) (by decide) (by omega)
      have l1 : (10 : Int32) ≤ nI (s 41) ↔ 10 ≤ s 41 := nI_leI (a := 10) (by decide) (by omega)
      rw [l0, l1]
      refine ⟨fun d4 => ⟨fun d5 => h99 0 (fun q1 q2 => ?_), fun d5 => h99 1 (fun q1 q2 => ?_)⟩, fun d4 => ⟨fun d5 => h99 0 (fun q1 q2 => ?_), fun d5 => h99 1 (fun q1 q2 => ?_)⟩⟩
      · have k4 := (not_congr (ek q1 q2)).mp d4
        unfold full
        rw [if_neg k4, decide_eq_true d5]
        exact ⟨fun _ => rfl, fun _ => rfl⟩
      · have k4 := (not_congr (ek q1 q2)).mp d4
        unfold full
        rw [if_neg k4, decide_eq_false d5]
        exact ⟨fun z => absurd z (by decide), fun z => by cases z⟩
      · have k4 := (ek q1 q2).mp d4
        unfold full
        rw [if_pos k4, decide_eq_true d5]
        exact ⟨fun _ => rfl, fun _ => rfl⟩
      · have k4 := (ek q1 q2).mp d4
        unfold full
        rw [if_pos k4, decide_eq_false d5]
        exact ⟨fun z => absurd z (by decide), fun z => by cases z⟩
theorem ld_7 {g : Mem} (hP : ∀ g', (∀ k, k ≠ 28 → g' k = g k) → MA 28 z0 g' → Runs Γ 3 yX7_advance iX7_advance [.inr 26] (up (up g' 26 11 (-9)) 26 7 0) (fun _ g1 => AW Γ 7 iX7_load P 41 [some (.inr 26)] [] g1)) : ∀ n k g', k + n = 81 → (∀ k, k ≠ 28 → g' k = g k) → (∀ j, j < k → g' 28 j = 0) → AW Γ 7 iX7_load P 7 [some (.inr 26), some (.inl (nI k))] [] g' := by
  intro n
  induction n with
  | zero =>
    intro k g' hk h1 h2
    refine sg_X7_load_7 _ ⟨fun _ => hP g' h1 (fun j hj => by rw [h2 j (by omega)]; rfl), fun d => absurd (nI_le (a := 81) (by omega) (by omega)) d⟩
  | succ n ih =>
    intro k g' hk h1 h2
    refine sg_X7_load_7 _ ⟨fun d => absurd d (nI_ge (b := 81) (by omega) (by decide)), fun _ => ⟨vp_nI (by omega) (by decide), ?_⟩⟩
    rw [nI_1, ix_nI (n := k) (by omega)]
    refine ih (k + 1) _ (by omega) (fun j hj => by rw [up_ne hj, h1 j hj]) (fun j hj => ?_)
    by_cases e : j = k
    · rw [e, up_at]
    · rw [up_nx e]; exact h2 j (by omega)
theorem ld_202 {g : Mem} {s : St} (hA : MA 28 s g) (hP : ∀ g', (∀ k, k ≠ 27 → g' k = g k) → MA 27 s g' → Runs Γ 1 yX7_beginRun iX7_beginRun [.inr 26] g' (fun _ g1 => P (g1 27 0) (up g1 26 6 0))) : ∀ n k g', k + n = 81 → (∀ k, k ≠ 27 → g' k = g k) → (∀ j, j < k → g' 27 j = nI (s j)) → AW Γ 7 iX7_load P 202 [some (.inr 26), some (.inl (nI k))] [] g' := by
  intro n
  induction n with
  | zero =>
    intro k g' hk h1 h2
    refine sg_X7_load_202 _ ⟨fun _ => hP g' h1 (fun j hj => h2 j (by omega)), fun d => absurd (nI_le (a := 81) (by omega) (by omega)) d⟩
  | succ n ih =>
    intro k g' hk h1 h2
    refine sg_X7_load_202 _ ⟨fun d => absurd d (nI_ge (b := 81) (by omega) (by decide)), fun _ => ⟨vp_nI (by omega) (by decide), vp_nI (by omega) (by decide), ?_⟩⟩
    rw [nI_1, ix_nI (n := k) (by omega)]
    refine ih (k + 1) _ (by omega) (fun j hj => by rw [up_ne hj, h1 j hj]) (fun j hj => ?_)
    by_cases e : j = k
    · rw [e, up_at, h1 28 (by decide)]; exact hA k (by omega)
    · rw [up_nx e]; exact h2 j (by omega)
end RL
theorem MI.frP {a : Ab} {g g' : Mem} (h : MI a g) (f : frP g g') : MI a g' := by
  obtain ⟨h1, h2, h3⟩ := h
  refine ⟨fun j hj => by rw [f.1 27 (by decide) (by decide)]; exact h1 j hj, ⟨h2.1, by rw [f.2 4 (by omega)]; exact h2.2.1, fun i t hi j hj => by rw [f.1 29 (by decide) (by decide)]; exact h2.2.2 i t hi j hj⟩, h3.frP f⟩
theorem frP.m {g g' : Mem} (f : frP g g') : frM g g' := fun k hk => f.1 k (by omega) (by omega)
theorem om_load {Γ : Gam} {a : Ab} {g : Mem} (h : MI a g) (hw : WA a) : Runs Γ 7 yX7_load iX7_load [.inr 26] g (OpM (sp_load a) g) := by
  have h0 := h.thr
  have hL := hw.2.2.2.1
  have hc := hw.2.2.2.2
  refine Runs.intro (by decide) rfl (Nat.le_of_ble_eq_true rfl) (sg_X7_load_0 (ld_7 (g := up g 26 0 0) (fun g1 f1 hA => ?_) 81 0 _ rfl (fun _ _ => rfl) (fun j hj => absurd hj (Nat.not_lt_zero _))))
  have fr1 : frP (up g 26 0 0) (up (up g1 26 11 (-9)) 26 7 0) := ⟨fun k a b => by rw [up_ne a, up_ne a, f1 k b], fun j hj => by rw [up_nx (by omega), up_nx (by omega), f1 26 (by decide)]⟩
  have hM1 := (h0.2.2 : TM a.2.2.1 a.2.2.2 (up g 26 0 0)).frP fr1
  refine (ct_X7_advance (i := 0) hL hc (Nat.zero_le _) hM1 (by rw [up_at]; rfl)).mono (fun r g2 q => ?_)
  obtain ⟨q1, q2⟩ := q
  have fk := frK.ofT q2
  have fr2 := fr1.k fk
  have e2 : g2 26 11 = -9 := by rw [q2.2 11 (by decide) (by decide) (by decide) (by decide), up_nx (by decide), up_at]
  have hA2 : MA 28 z0 g2 := fun j hj => by rw [q2.1 28 (by decide), up_ne (by decide), up_ne (by decide)]; exact hA j hj
  refine ld_41 (g0 := up g 26 0 0) hL hc 160 0 z0 g2 (by omega) (Nat.zero_le _) e2 (hM1.frK fk) q1 hA2 wf_z0 fr2 (fun g3 fr3 rp => ?_)
  have hI := h0.frP fr3
  have fm : frM g g3 := (frM_thr g).trans fr3.m
  refine sg_X7_load_181 (Runs.fn ct_X7_isFine ?_)
  unfold sp_load
  generalize ex : par a.2.2.1 a.2.2.2 160 z0 0 = X at rp
  match X, ex, rp with
  | .inl e, ex, rp =>
    rw [fine_F (err_ne rp.2 rp.1)]
    refine ⟨fun z => absurd rfl z, fun _ => ⟨?_, hI, fm⟩⟩
    rw [rp.1]
  | .inr s', ex, rp =>
    have hw' := par_wf 160 z0 0 s' wf_z0 (Nat.zero_le _) ex
    rw [fine_T rp.1]
    refine ⟨fun _ => ?_, fun z => absurd z (by decide)⟩
    have hsv := ct_X7_save (Γ := Γ) hI.1 hI.2.1
    have hsv' := ct_X7_save' (Γ := Γ) hI
    refine hsv.mono (fun r4 g4 p => ?_)
    obtain ⟨p1, p2, p3⟩ := p
    have hA4 : MA 28 s' g4 := fun j hj => by rw [p2 28 (by decide) (by decide)]; exact rp.2 j hj
    refine ld_202 hA4 (fun g5 f5 m5 => ?_) 81 0 g4 rfl (fun _ _ => rfl) (fun j hj => absurd hj (Nat.not_lt_zero _))
    refine (ct_X7_beginRun hw' (fun j hj => m5 j (by omega))).mono (fun r6 g6 u => ?_)
    obtain ⟨u1, u2⟩ := u
    refine ⟨?_, ⟨fun j hj => ?_, ⟨p1.1, ?_, fun i t hi j hj => ?_⟩, ⟨up_at _ _ _ _, fun j hj => absurd hj (Nat.not_lt_zero _)⟩⟩, fun k hk => ?_⟩
    · rw [u2 0 (by decide), beg_lo (by decide)]
    · rw [up_ne (by decide)]; exact u2 j hj
    · rw [up_nx (by decide), u1 26 (by decide), f5 26 (by decide)]; exact p1.2.1
    · rw [up_ne (by decide), u1 29 (by decide), f5 29 (by decide)]; exact p1.2.2 i t hi j hj
    · rw [up_ne (by omega), u1 k (by omega), f5 k (by omega), p2 k (by omega) (by omega), fm k hk]
