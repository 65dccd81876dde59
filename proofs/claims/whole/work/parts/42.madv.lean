/-! The reference's advance. -/
theorem inI_c {x a b : Nat} (hx : x < 2 ^ 31) (ha : a < 2 ^ 31) (hb : b < 2 ^ 31) : inI (nI x) (nI a) (nI b) = decide (a ≤ x ∧ x ≤ b) := by
  unfold inI
  rw [Bool.eq_iff_iff]
  simp only [Bool.and_eq_true, decide_eq_true_eq, nI_leI ha hx, nI_leI hx hb]
/-- the character at i, -1 at the end -/
def chI (L : Nat) (c : Nat → Nat) (i : Nat) : Int32 := if i < L then nI (c i) else -1
theorem chI_w {L : Nat} {c : Nat → Nat} (hc : ∀ j, j < L → c j ≤ 255) (i : Nat) : inI (chI L c i) 97 122 = decide (i < L ∧ ty (c i) = 1) := by
  unfold chI
  by_cases h : i < L
  · have := hc i h
    rw [if_pos h, show (97 : Int32) = nI 97 from rfl, show (122 : Int32) = nI 122 from rfl, inI_c (by omega) (by decide) (by decide)]
    refine decide_eq_decide.mpr ⟨fun q => ⟨h, by unfold ty; rw [if_pos q]⟩, fun q => ?_⟩
    have := q.2
    unfold ty at this
    split at this
    · assumption
    · split at this
      · omega
      · split at this <;> omega
  · rw [if_neg h, decide_eq_false (fun q => h q.1)]; decide
theorem chI_d {L : Nat} {c : Nat → Nat} (hc : ∀ j, j < L → c j ≤ 255) (i : Nat) : inI (chI L c i) 48 57 = decide (i < L ∧ ty (c i) = 2) := by
  unfold chI
  by_cases h : i < L
  · have := hc i h
    rw [if_pos h, show (48 : Int32) = nI 48 from rfl, show (57 : Int32) = nI 57 from rfl, inI_c (by omega) (by decide) (by decide)]
    refine decide_eq_decide.mpr ⟨fun q => ⟨h, by unfold ty; rw [if_neg (by omega), if_pos q]⟩, fun q => ?_⟩
    have := q.2
    unfold ty at this
    split at this
    · omega
    · split at this
      · assumption
      · split at this <;> omega
  · rw [if_neg h, decide_eq_false (fun q => h q.1)]; decide
theorem ty_dig {ch : Nat} (h : ty ch = 2) : 48 ≤ ch ∧ ch ≤ 57 := by
  unfold ty at h
  split at h
  · omega
  · split at h
    · assumption
    · split at h <;> omega
/-- what of the reference's reader changes -/
def frT (g g' : Mem) : Prop := (∀ k, k ≠ 26 → g' k = g k) ∧ ∀ j, j ≠ 7 → j ≠ 8 → j ≠ 9 → j ≠ 10 → g' 26 j = g 26 j
theorem frT.trans {g1 g2 g3 : Mem} (h : frT g1 g2) (h' : frT g2 g3) : frT g1 g3 := ⟨fun k a => by rw [h'.1 k a, h.1 k a], fun j a b d e => by rw [h'.2 j a b d e, h.2 j a b d e]⟩
theorem frT.up {g g' : Mem} (h : frT g g') {j : Nat} {v : Int32} (hj : 7 ≤ j ∧ j ≤ 10) : frT g (up g' 26 j v) := ⟨fun k a => by rw [up_ne a, h.1 k a], fun i a b d e => by rw [up_nx (by omega), h.2 i a b d e]⟩
theorem TM.frT {L : Nat} {c : Nat → Nat} {g g' : Mem} (h : TM L c g) (f : frT g g') : TM L c g' := ⟨by rw [f.2 6 (by decide) (by decide) (by decide) (by decide)]; exact h.1, fun j hj => by rw [f.1 30 (by decide)]; exact h.2 j hj⟩
theorem sg_X7_advance_0 {Γ : Gam} {P : Int32 → Mem → Prop}  {g : Mem} (h : (Runs Γ 1 yX7_characterAt iX7_characterAt [.inr 26, .inl (g 26 7)] g (fun r1 g1 => ((¬ r1 = 32 → (Runs Γ 1 yX7_characterAt iX7_characterAt [.inr 26, .inl (g1 26 7)] (up g1 26 8 (g1 26 7)) (fun r2 g2 => ((0 ≤ r2 → (((bi (inI r2 97 122)) = 0 → (((bi (inI r2 48 57)) = 0 → ((¬ r2 = 59 → P 0 (up (up g2 26 7 ((g2 26 7) + 1)) 26 9 4)) ∧ (r2 = 59 → P 0 (up (up g2 26 7 ((g2 26 7) + 1)) 26 9 3)))) ∧ (¬ (bi (inI r2 48 57)) = 0 → AW Γ 3 iX7_advance P 129 [some (.inr 26), some (.inl r2)] [] (up g2 26 10 0)))) ∧ (¬ (bi (inI r2 97 122)) = 0 → AW Γ 3 iX7_advance P 66 [some (.inr 26)] [] g2))) ∧ (¬ (0 ≤ r2) → P 0 (up g2 26 9 0)))))) ∧ (r1 = 32 → AW Γ 3 iX7_advance P 0 [some (.inr 26)] [] (up g1 26 7 ((g1 26 7) + 1))))))) : AW Γ 3 iX7_advance P 0 [some (.inr 26)] [] g :=
  (aw_aload_n dX7_advance_0 rfl (aw_aload_n dX7_advance_1 rfl (aw_geti fkX7_42 fa_26_7 dX7_advance_2 (aw_callVi lkX7_49 ckX7_characterAt ca_26 rfl (d := 1) (by decide) [.inl (g 26 7)] rfl rfl (Nat.le_of_ble_eq_true rfl) dX7_advance_5 rfl (Runs.mono h (fun r1 g1 h1_ => (aw_bipush 32 dX7_advance_8 (by decide) (aw_icmp_ne 26 dX7_advance_10 (by decide) (fun c1 => (aw_aload_n dX7_advance_26 rfl (aw_aload_n dX7_advance_27 rfl (aw_geti fkX7_42 fa_26_7 dX7_advance_28 (aw_putf fpX7_39 fa_26_8 (vp_nar_int _) rfl dX7_advance_31 (aw_aload_n dX7_advance_34 rfl (aw_aload_n dX7_advance_35 rfl (aw_geti fkX7_42 fa_26_7 dX7_advance_36 (aw_callVi lkX7_49 ckX7_characterAt ca_26 rfl (d := 1) (by decide) [.inl (g1 26 7)] rfl rfl (Nat.le_of_ble_eq_true rfl) dX7_advance_39 rfl (Runs.mono (h1_.1 c1) (fun r2 g2 h2_ => (aw_istore_n [some (.inr 26), some (.inl r2)] dX7_advance_42 (by decide) rfl (aw_iload_n dX7_advance_43 rfl (aw_if_ge 55 dX7_advance_44 (by decide) (fun c2 => (aw_iload_n dX7_advance_55 rfl (aw_bipush 97 dX7_advance_56 (by decide) (aw_bipush 122 dX7_advance_58 (by decide) (aw_callSi lkX7_56 ckX7_in (d := 1) (by decide) [.inl r2, .inl 97, .inl 122] rfl rfl (Nat.le_of_ble_eq_true rfl) dX7_advance_60 rfl (Runs.fn ct_X7_in (aw_if_eq 113 dX7_advance_63 (by decide) (fun c3 => (aw_iload_n dX7_advance_113 rfl (aw_bipush 48 dX7_advance_114 (by decide) (aw_bipush 57 dX7_advance_116 (by decide) (aw_callSi lkX7_56 ckX7_in (d := 1) (by decide) [.inl r2, .inl 48, .inl 57] rfl rfl (Nat.le_of_ble_eq_true rfl) dX7_advance_118 rfl (Runs.fn ct_X7_in (aw_if_eq 257 dX7_advance_121 (by decide) (fun c4 => (aw_aload_n dX7_advance_257 rfl (aw_dup dX7_advance_258 (aw_geti fkX7_42 fa_26_7 dX7_advance_259 (aw_iconst 1 dX7_advance_262 (by decide) (aw_iadd dX7_advance_263 (aw_putf fpX7_42 fa_26_7 (vp_nar_int _) rfl dX7_advance_264 (aw_aload_n dX7_advance_267 rfl (aw_iload_n dX7_advance_268 rfl (aw_bipush 59 dX7_advance_269 (by decide) (aw_icmp_ne 278 dX7_advance_271 (by decide) (fun c5 => (aw_iconst 4 dX7_advance_278 (by decide) (aw_putf fpX7_53 fa_26_9 (vp_nar_int _) rfl dX7_advance_279 (aw_vret rfl dX7_advance_282 ((((h2_.1 c2).1 c3).1 c4).1 c5))))) (fun c5 => (aw_iconst 3 dX7_advance_274 (by decide) (aw_goto 279 dX7_advance_275 (by decide) (aw_putf fpX7_53 fa_26_9 (vp_nar_int _) rfl dX7_advance_279 (aw_vret rfl dX7_advance_282 ((((h2_.1 c2).1 c3).1 c4).2 c5))))))))))))))))) (fun c4 => (aw_aload_n dX7_advance_124 rfl (aw_iconst 0 dX7_advance_125 (by decide) (aw_putf fpX7_64 fa_26_10 (vp_nar_int _) rfl dX7_advance_126 (aw_mask [true, true] rfl (((h2_.1 c2).1 c3).2 c4))))))))))))) (fun c3 => (aw_mask [true] rfl ((h2_.1 c2).2 c3)))))))))) (fun c2 => (aw_aload_n dX7_advance_47 rfl (aw_iconst 0 dX7_advance_48 (by decide) (aw_putf fpX7_53 fa_26_9 (vp_nar_int _) rfl dX7_advance_49 (aw_goto 282 dX7_advance_52 (by decide) (aw_vret rfl dX7_advance_282 (h2_.2 c2))))))))))))))))))))) (fun c1 => (aw_aload_n dX7_advance_13 rfl (aw_dup dX7_advance_14 (aw_geti fkX7_42 fa_26_7 dX7_advance_15 (aw_iconst 1 dX7_advance_18 (by decide) (aw_iadd dX7_advance_19 (aw_putf fpX7_42 fa_26_7 (vp_nar_int _) rfl dX7_advance_20 (aw_goto 0 dX7_advance_23 (by decide) (aw_mask [true] rfl (h1_.2 c1))))))))))))))))))
theorem sg_X7_advance_129 {Γ : Gam} {P : Int32 → Mem → Prop}  (a1 : Int32) {g : Mem} (h : (Runs Γ 1 yX7_characterAt iX7_characterAt [.inr 26, .inl (g 26 7)] g (fun r1 g1 => (((bi (inI r1 48 57)) = 0 → ((((g1 26 7) - (g1 26 8)) = 1 → AW Γ 3 iX7_advance P 235 [some (.inr 26)] [] g1) ∧ (¬ ((g1 26 7) - (g1 26 8)) = 1 → ((¬ ((g1 26 7) - (g1 26 8)) = 2 → AW Γ 3 iX7_advance P 239 [some (.inr 26)] [] g1) ∧ (((g1 26 7) - (g1 26 8)) = 2 → ((a1 = 48 → AW Γ 3 iX7_advance P 239 [some (.inr 26)] [] g1) ∧ (¬ a1 = 48 → AW Γ 3 iX7_advance P 235 [some (.inr 26)] [] g1))))))) ∧ (¬ (bi (inI r1 48 57)) = 0 → ((2 ≤ ((g1 26 7) - (g1 26 8)) → AW Γ 3 iX7_advance P 129 [some (.inr 26), some (.inl a1)] [] (up (up g1 26 10 (g1 26 10)) 26 7 ((g1 26 7) + 1))) ∧ (¬ (2 ≤ ((g1 26 7) - (g1 26 8))) → (Runs Γ 1 yX7_characterAt iX7_characterAt [.inr 26, .inl (g1 26 7)] g1 (fun r2 g2 => AW Γ 3 iX7_advance P 129 [some (.inr 26), some (.inl a1)] [] (up (up g2 26 10 (((10 * (g1 26 10)) + r2) - 48)) 26 7 ((g2 26 7) + 1))))))))))) : AW Γ 3 iX7_advance P 129 [some (.inr 26), some (.inl a1)] [] g :=
  (aw_aload_n dX7_advance_129 rfl (aw_aload_n dX7_advance_130 rfl (aw_geti fkX7_42 fa_26_7 dX7_advance_131 (aw_callVi lkX7_49 ckX7_characterAt ca_26 rfl (d := 1) (by decide) [.inl (g 26 7)] rfl rfl (Nat.le_of_ble_eq_true rfl) dX7_advance_134 rfl (Runs.mono h (fun r1 g1 h1_ => (aw_bipush 48 dX7_advance_137 (by decide) (aw_bipush 57 dX7_advance_139 (by decide) (aw_callSi lkX7_56 ckX7_in (d := 1) (by decide) [.inl r1, .inl 48, .inl 57] rfl rfl (Nat.le_of_ble_eq_true rfl) dX7_advance_141 rfl (Runs.fn ct_X7_in (aw_if_eq 203 dX7_advance_144 (by decide) (fun c1 => (aw_aload_n dX7_advance_203 rfl (aw_geti fkX7_42 fa_26_7 dX7_advance_204 (aw_aload_n dX7_advance_207 rfl (aw_geti fkX7_39 fa_26_8 dX7_advance_208 (aw_isub dX7_advance_211 (aw_iconst 1 dX7_advance_212 (by decide) (aw_icmp_eq 235 dX7_advance_213 (by decide) (fun c2 => (aw_mask [true] rfl ((h1_.1 c1).1 c2))) (fun c2 => (aw_aload_n dX7_advance_216 rfl (aw_geti fkX7_42 fa_26_7 dX7_advance_217 (aw_aload_n dX7_advance_220 rfl (aw_geti fkX7_39 fa_26_8 dX7_advance_221 (aw_isub dX7_advance_224 (aw_iconst 2 dX7_advance_225 (by decide) (aw_icmp_ne 239 dX7_advance_226 (by decide) (fun c3 => (aw_mask [true] rfl (((h1_.1 c1).2 c2).1 c3))) (fun c3 => (aw_iload_n dX7_advance_229 rfl (aw_bipush 48 dX7_advance_230 (by decide) (aw_icmp_eq 239 dX7_advance_232 (by decide) (fun c4 => (aw_mask [true] rfl ((((h1_.1 c1).2 c2).2 c3).1 c4))) (fun c4 => (aw_mask [true] rfl ((((h1_.1 c1).2 c2).2 c3).2 c4))))))))))))))))))))))) (fun c1 => (aw_aload_n dX7_advance_147 rfl (aw_aload_n dX7_advance_148 rfl (aw_geti fkX7_42 fa_26_7 dX7_advance_149 (aw_aload_n dX7_advance_152 rfl (aw_geti fkX7_39 fa_26_8 dX7_advance_153 (aw_isub dX7_advance_156 (aw_iconst 2 dX7_advance_157 (by decide) (aw_icmp_ge 183 dX7_advance_158 (by decide) (fun c5 => (aw_aload_n dX7_advance_183 rfl (aw_geti fkX7_64 fa_26_10 dX7_advance_184 (aw_putf fpX7_64 fa_26_10 (vp_nar_int _) rfl dX7_advance_187 (aw_aload_n dX7_advance_190 rfl (aw_dup dX7_advance_191 (aw_geti fkX7_42 fa_26_7 dX7_advance_192 (aw_iconst 1 dX7_advance_195 (by decide) (aw_iadd dX7_advance_196 (aw_putf fpX7_42 fa_26_7 (vp_nar_int _) rfl dX7_advance_197 (aw_goto 129 dX7_advance_200 (by decide) (aw_mask [true, true] rfl ((h1_.2 c1).1 c5))))))))))))) (fun c5 => (aw_bipush 10 dX7_advance_161 (by decide) (aw_aload_n dX7_advance_163 rfl (aw_geti fkX7_64 fa_26_10 dX7_advance_164 (aw_imul dX7_advance_167 (aw_aload_n dX7_advance_168 rfl (aw_aload_n dX7_advance_169 rfl (aw_geti fkX7_42 fa_26_7 dX7_advance_170 (aw_callVi lkX7_49 ckX7_characterAt ca_26 rfl (d := 1) (by decide) [.inl (g1 26 7)] rfl rfl (Nat.le_of_ble_eq_true rfl) dX7_advance_173 rfl (Runs.mono ((h1_.2 c1).2 c5) (fun r2 g2 h2_ => (aw_iadd dX7_advance_176 (aw_bipush 48 dX7_advance_177 (by decide) (aw_isub dX7_advance_179 (aw_goto 187 dX7_advance_180 (by decide) (aw_putf fpX7_64 fa_26_10 (vp_nar_int _) rfl dX7_advance_187 (aw_aload_n dX7_advance_190 rfl (aw_dup dX7_advance_191 (aw_geti fkX7_42 fa_26_7 dX7_advance_192 (aw_iconst 1 dX7_advance_195 (by decide) (aw_iadd dX7_advance_196 (aw_putf fpX7_42 fa_26_7 (vp_nar_int _) rfl dX7_advance_197 (aw_goto 129 dX7_advance_200 (by decide) (aw_mask [true, true] rfl h2_))))))))))))))))))))))))))))))))))))))))))))
theorem sg_X7_advance_66 {Γ : Gam} {P : Int32 → Mem → Prop}  {g : Mem} (h : (Runs Γ 1 yX7_characterAt iX7_characterAt [.inr 26, .inl (g 26 7)] g (fun r1 g1 => (((bi (inI r1 97 122)) = 0 → (Runs Γ 2 yX7_keyword iX7_keyword [.inr 26] (up g1 26 9 1) (fun r2 g2 => P 0 (up g2 26 10 r2)))) ∧ (¬ (bi (inI r1 97 122)) = 0 → AW Γ 3 iX7_advance P 66 [some (.inr 26)] [] (up g1 26 7 ((g1 26 7) + 1))))))) : AW Γ 3 iX7_advance P 66 [some (.inr 26)] [] g :=
  (aw_aload_n dX7_advance_66 rfl (aw_aload_n dX7_advance_67 rfl (aw_geti fkX7_42 fa_26_7 dX7_advance_68 (aw_callVi lkX7_49 ckX7_characterAt ca_26 rfl (d := 1) (by decide) [.inl (g 26 7)] rfl rfl (Nat.le_of_ble_eq_true rfl) dX7_advance_71 rfl (Runs.mono h (fun r1 g1 h1_ => (aw_bipush 97 dX7_advance_74 (by decide) (aw_bipush 122 dX7_advance_76 (by decide) (aw_callSi lkX7_56 ckX7_in (d := 1) (by decide) [.inl r1, .inl 97, .inl 122] rfl rfl (Nat.le_of_ble_eq_true rfl) dX7_advance_78 rfl (Runs.fn ct_X7_in (aw_if_eq 97 dX7_advance_81 (by decide) (fun c1 => (aw_aload_n dX7_advance_97 rfl (aw_iconst 1 dX7_advance_98 (by decide) (aw_putf fpX7_53 fa_26_9 (vp_nar_int _) rfl dX7_advance_99 (aw_aload_n dX7_advance_102 rfl (aw_aload_n dX7_advance_103 rfl (aw_callVi lkX7_60 ckX7_keyword ca_26 rfl (d := 2) (by decide) [] rfl rfl (Nat.le_of_ble_eq_true rfl) dX7_advance_104 rfl (Runs.mono (h1_.1 c1) (fun r2 g2 h2_ => (aw_putf fpX7_64 fa_26_10 (vp_nar_int _) rfl dX7_advance_107 (aw_goto 282 dX7_advance_110 (by decide) (aw_vret rfl dX7_advance_282 h2_)))))))))))) (fun c1 => (aw_aload_n dX7_advance_84 rfl (aw_dup dX7_advance_85 (aw_geti fkX7_42 fa_26_7 dX7_advance_86 (aw_iconst 1 dX7_advance_89 (by decide) (aw_iadd dX7_advance_90 (aw_putf fpX7_42 fa_26_7 (vp_nar_int _) rfl dX7_advance_91 (aw_goto 66 dX7_advance_94 (by decide) (aw_mask [true] rfl (h1_.2 c1)))))))))))))))))))))
theorem sg_X7_advance_235 {Γ : Gam} {P : Int32 → Mem → Prop}  {g : Mem} (h : AW Γ 3 iX7_advance P 240 [some (.inr 26)] [.inl 1] g) : AW Γ 3 iX7_advance P 235 [some (.inr 26)] [] g :=
  (aw_iconst 1 dX7_advance_235 (by decide) (aw_goto 240 dX7_advance_236 (by decide) (aw_mask [true] rfl h)))
theorem sg_X7_advance_239 {Γ : Gam} {P : Int32 → Mem → Prop}  {g : Mem} (h : AW Γ 3 iX7_advance P 240 [some (.inr 26)] [.inl 0] g) : AW Γ 3 iX7_advance P 239 [some (.inr 26)] [] g :=
  (aw_iconst 0 dX7_advance_239 (by decide) (aw_mask [true] rfl h))
theorem sg_X7_advance_240 {Γ : Gam} {P : Int32 → Mem → Prop}  (v0 : Int32) {g : Mem} (h : ((v0 = 0 → P 0 (up g 26 9 4)) ∧ (¬ v0 = 0 → P 0 (up g 26 9 2)))) : AW Γ 3 iX7_advance P 240 [some (.inr 26)] [.inl v0] g :=
  (aw_istore_n [some (.inr 26), none, some (.inl v0)] dX7_advance_240 (by decide) rfl (aw_aload_n dX7_advance_241 rfl (aw_iload_n dX7_advance_242 rfl (aw_if_eq 250 dX7_advance_243 (by decide) (fun c1 => (aw_iconst 4 dX7_advance_250 (by decide) (aw_putf fpX7_53 fa_26_9 (vp_nar_int _) rfl dX7_advance_251 (aw_goto 282 dX7_advance_254 (by decide) (aw_vret rfl dX7_advance_282 (h.1 c1)))))) (fun c1 => (aw_iconst 2 dX7_advance_246 (by decide) (aw_goto 251 dX7_advance_247 (by decide) (aw_putf fpX7_53 fa_26_9 (vp_nar_int _) rfl dX7_advance_251 (aw_goto 282 dX7_advance_254 (by decide) (aw_vret rfl dX7_advance_282 (h.2 c1)))))))))))
theorem lp_X7_adv66 {Γ : Gam} {P : Int32 → Mem → Prop} {L : Nat} {c : Nat → Nat} {g0 : Mem} {f e : Nat} (hL : L ≤ 160) (hc : ∀ j, j < L → c j ≤ 255) (hT : TM L c g0) (hP : ∀ g, frT g0 g → g 26 7 = nI e → g 26 8 = nI f → g 26 9 = 1 → g 26 10 = kwI (kwd c f e) → P 0 g) : ∀ n k g, k + n = L → f ≤ k → e = ff (fun j => !decide (ty (c j) = 1)) k n → frT g0 g → g 26 7 = nI k → g 26 8 = nI f → AW Γ 3 iX7_advance P 66 [some (.inr 26)] [] g := by
  have fin : ∀ k g, k ≤ L → f ≤ k → e = k → frT g0 g → g 26 7 = nI k → g 26 8 = nI f → Runs Γ 2 yX7_keyword iX7_keyword [.inr 26] (up g 26 9 1) (fun r2 g2 => P 0 (up g2 26 10 r2)) := by
    intro k g hk hf he fr e7 e8
    refine (ct_X7_keyword (f := f) (b := k) hL hc (hT.frT (fr.up (by decide))) (by rw [up_nx (by decide)]; exact e8) (by rw [up_nx (by decide)]; exact e7) hk hf).mono (fun r g2 q => ?_)
    obtain ⟨rfl, rfl⟩ := q
    rw [← he]
    rw [← he] at e7
    exact hP _ ((fr.up (by decide)).up (by decide)) (by rw [up_nx (by decide), up_nx (by decide)]; exact e7) (by rw [up_nx (by decide), up_nx (by decide)]; exact e8) (by rw [up_nx (by decide), up_at]) (up_at _ _ _ _)
  intro n
  induction n with
  | zero =>
    intro k g hk hf he fr e7 e8
    refine sg_X7_advance_66 ?_
    rw [e7]
    refine Runs.fn (ct_X7_characterAt hL (hT.frT fr) (by omega)) ?_
    rw [show (if k < L then nI (c k) else -1) = chI L c k from rfl, chI_w hc, decide_eq_false (by omega)]
    rw [ff] at he
    exact ⟨fun _ => fin k g (by omega) hf he fr e7 e8, fun d => absurd rfl d⟩
  | succ n ih =>
    intro k g hk hf he fr e7 e8
    refine sg_X7_advance_66 ?_
    rw [e7]
    refine Runs.fn (ct_X7_characterAt hL (hT.frT fr) (by omega)) ?_
    rw [show (if k < L then nI (c k) else -1) = chI L c k from rfl, chI_w hc, e7, nI_1]
    refine ⟨fun d => ?_, fun d => ?_⟩
    · rw [bi_eq0, decide_eq_false_iff_not] at d
      have d' : ¬ ty (c k) = 1 := fun z => d ⟨by omega, z⟩
      rw [ff_T (by rw [decide_eq_false d']; rfl)] at he
      exact fin k g (by omega) hf he fr e7 e8
    · rw [bi_ne0, decide_eq_true_eq] at d
      rw [ff_F (by rw [decide_eq_true d.2]; rfl)] at he
      exact ih (k + 1) _ (by omega) (by omega) he (fr.up (by decide)) (up_at _ _ _ _) (by rw [up_nx (by decide)]; exact e8)
/-- the value of the digits from f up to k, as the reference counts it: no further than two -/
def vl (c : Nat → Nat) (f k : Nat) : Nat := if k - f = 0 then 0 else if k - f = 1 then c f - 48 else 10 * (c f - 48) + (c (f + 1) - 48)
def mT (L : Nat) (c : Nat → Nat) (i : Nat) : Nat := if tT L c i = 2 ∧ nv c (tF L c i) (tB L c i) = 100 then 4 else tT L c i
theorem lp_X7_adv240 {Γ : Gam} {P : Int32 → Mem → Prop} {c : Nat → Nat} {g : Mem} {f e : Nat} (he : e ≤ 160) (hfe : f < e) (hd : ∀ j, f ≤ j → j < e → 48 ≤ c j ∧ c j ≤ 57) (e7 : g 26 7 = nI e) (e8 : g 26 8 = nI f) (e10 : g 26 10 = nI (vl c f e)) (hP : ∀ g', frT g g' → g' 26 7 = nI e → g' 26 8 = nI f → g' 26 9 = (if nv c f e = 100 then 4 else 2) → (nv c f e ≠ 100 → g' 26 10 = nI (nv c f e)) → P 0 g') : ((((g 26 7) - (g 26 8)) = 1 → AW Γ 3 iX7_advance P 235 [some (.inr 26)] [] g) ∧ (¬ ((g 26 7) - (g 26 8)) = 1 → ((¬ ((g 26 7) - (g 26 8)) = 2 → AW Γ 3 iX7_advance P 239 [some (.inr 26)] [] g) ∧ (((g 26 7) - (g 26 8)) = 2 → ((nI (c f) = 48 → AW Γ 3 iX7_advance P 239 [some (.inr 26)] [] g) ∧ (¬ nI (c f) = 48 → AW Γ 3 iX7_advance P 235 [some (.inr 26)] [] g)))))) := by
  have rf : frT g g := ⟨fun _ _ => rfl, fun _ _ _ _ _ => rfl⟩
  have hcf := hd f (Nat.le_refl _) hfe
  have good : nv c f e ≠ 100 → nv c f e = vl c f e → AW Γ 3 iX7_advance P 235 [some (.inr 26)] [] g := by
    intro h1 h2
    refine sg_X7_advance_235 (sg_X7_advance_240 _ ⟨fun d => absurd d (by decide), fun _ => ?_⟩)
    exact hP _ (rf.up (by decide)) (by rw [up_nx (by decide)]; exact e7) (by rw [up_nx (by decide)]; exact e8) (by rw [up_at, if_neg h1]) (fun _ => by rw [up_nx (by decide), h2]; exact e10)
  have bad : nv c f e = 100 → AW Γ 3 iX7_advance P 239 [some (.inr 26)] [] g := by
    intro h1
    refine sg_X7_advance_239 (sg_X7_advance_240 _ ⟨fun _ => ?_, fun d => absurd rfl d⟩)
    exact hP _ (rf.up (by decide)) (by rw [up_nx (by decide)]; exact e7) (by rw [up_nx (by decide)]; exact e8) (by rw [up_at, if_pos h1]) (fun q => absurd h1 q)
  rw [e7, e8, nI_sb (by omega), show (1 : Int32) = nI 1 from rfl, show (2 : Int32) = nI 2 from rfl, show (48 : Int32) = nI 48 from rfl, nI_eq (a := e - f) (b := 1) (by omega) (by decide), nI_eq (a := e - f) (b := 2) (by omega) (by decide), nI_eq (a := c f) (b := 48) (by omega) (by decide)]
  refine ⟨fun d => ?_, fun d => ⟨fun d2 => ?_, fun d2 => ⟨fun d3 => ?_, fun d3 => ?_⟩⟩⟩
  · have a1 : nv c f e = c f - 48 := by unfold nv; rw [if_pos d]
    refine good (by omega) ?_
    rw [a1]; unfold vl; rw [if_neg (by omega), if_pos d]
  · refine bad ?_
    unfold nv; rw [if_neg d, if_neg (fun q => d2 q.1)]
  · refine bad ?_
    unfold nv; rw [if_neg d, if_neg (fun q => q.2 d3)]
  · have hc1 := hd (f + 1) (by omega) (by omega)
    have a1 : nv c f e = 10 * (c f - 48) + (c (f + 1) - 48) := by unfold nv; rw [if_neg d, if_pos ⟨d2, d3⟩]
    refine good (by omega) ?_
    rw [a1]; unfold vl; rw [if_neg (by omega), if_neg d]
theorem vl_next {c : Nat → Nat} {f k : Nat} (hk : f ≤ k) (h2 : ¬ 2 ≤ k - f) (hc : 48 ≤ c k) : vl c f (k + 1) = 10 * vl c f k + c k - 48 := by
  unfold vl
  by_cases e : k = f
  · subst e
    rw [if_neg (by omega), if_pos (by omega), if_pos (by omega)]; omega
  · have e1 : k = f + 1 := by omega
    subst e1
    rw [if_neg (by omega), if_neg (by omega), if_neg (by omega), if_pos (by omega)]; omega
theorem vl_stay {c : Nat → Nat} {f k : Nat} (h2 : 2 ≤ k - f) : vl c f (k + 1) = vl c f k := by
  unfold vl
  rw [if_neg (by omega), if_neg (by omega), if_neg (by omega), if_neg (by omega)]
theorem vl_lt {c : Nat → Nat} {f k : Nat} (hd : ∀ j, f ≤ j → j < k → 48 ≤ c j ∧ c j ≤ 57) : vl c f k < 100 := by
  unfold vl
  split
  · omega
  · split
    · have := hd f (by omega) (by omega); omega
    · have := hd f (by omega) (by omega)
      have := hd (f + 1) (by omega) (by omega)
      omega
theorem lp_X7_adv129 {Γ : Gam} {P : Int32 → Mem → Prop} {L : Nat} {c : Nat → Nat} {g0 : Mem} {f e : Nat} (hL : L ≤ 160) (hc : ∀ j, j < L → c j ≤ 255) (hT : TM L c g0) (hfe : f < e) (hP : ∀ g, frT g0 g → g 26 7 = nI e → g 26 8 = nI f → g 26 9 = (if nv c f e = 100 then 4 else 2) → (nv c f e ≠ 100 → g 26 10 = nI (nv c f e)) → P 0 g) : ∀ n k g, k + n = L → f ≤ k → e = ff (fun j => !decide (ty (c j) = 2)) k n → (∀ j, f ≤ j → j < k → 48 ≤ c j ∧ c j ≤ 57) → frT g0 g → g 26 7 = nI k → g 26 8 = nI f → g 26 10 = nI (vl c f k) → AW Γ 3 iX7_advance P 129 [some (.inr 26), some (.inl (nI (c f)))] [] g := by
  intro n
  induction n with
  | zero =>
    intro k g hk hf he hd fr e7 e8 e10
    rw [ff] at he
    refine sg_X7_advance_129 _ ?_
    rw [e7]
    refine Runs.fn (ct_X7_characterAt hL (hT.frT fr) (by omega)) ?_
    rw [show (if k < L then nI (c k) else -1) = chI L c k from rfl, chI_d hc, decide_eq_false (p := k < L ∧ ty (c k) = 2) (by omega)]
    refine ⟨fun _ => ?_, fun d => absurd rfl d⟩
    rw [← he] at hd e7 e10
    exact lp_X7_adv240 (by omega) hfe hd e7 e8 e10 (fun g' a1 a2 a3 a4 a5 => hP g' (fr.trans a1) a2 a3 a4 a5)
  | succ n ih =>
    intro k g hk hf he hd fr e7 e8 e10
    refine sg_X7_advance_129 _ ?_
    rw [e7]
    refine Runs.fn (ct_X7_characterAt hL (hT.frT fr) (by omega)) ?_
    rw [show (if k < L then nI (c k) else -1) = chI L c k from rfl, chI_d hc]
    refine ⟨fun d => ?_, fun d => ?_⟩
    · rw [bi_eq0, decide_eq_false_iff_not] at d
      have d' : ¬ ty (c k) = 2 := fun z => d ⟨by omega, z⟩
      rw [ff_T (by rw [decide_eq_false d']; rfl)] at he
      rw [← he] at hd e7 e10
      exact lp_X7_adv240 (by omega) hfe hd e7 e8 e10 (fun g' a1 a2 a3 a4 a5 => hP g' (fr.trans a1) a2 a3 a4 a5)
    · rw [bi_ne0, decide_eq_true_eq] at d
      rw [ff_F (by rw [decide_eq_true d.2]; rfl)] at he
      have dk := ty_dig d.2
      have hd' : ∀ j, f ≤ j → j < k + 1 → 48 ≤ c j ∧ c j ≤ 57 := by
        intro j j1 j2
        by_cases q : j = k
        · rw [q]; exact dk
        · exact hd j j1 (by omega)
      have hv := vl_lt hd
      have next : ∀ w : Nat, w = vl c f (k + 1) → AW Γ 3 iX7_advance P 129 [some (.inr 26), some (.inl (nI (c f)))] [] (up (up g 26 10 (nI w)) 26 7 (nI (k + 1))) := by
        intro w ew
        exact ih (k + 1) _ (by omega) (by omega) he hd' ((fr.up (by decide)).up (by decide)) (up_at _ _ _ _) (by rw [up_nx (by decide), up_nx (by decide)]; exact e8) (by rw [up_nx (by decide), up_at, ew])
      rw [e7, e8, e10, nI_sb hf, show (2 : Int32) = nI 2 from rfl, nI_leI (by decide) (by omega), nI_1]
      refine ⟨fun d2 => next _ (vl_stay d2).symm, fun d2 => Runs.fn (ct_X7_characterAt hL (hT.frT fr) (by omega)) ?_⟩
      rw [if_pos d.1, e7, pair_nI', show (48 : Int32) = nI 48 from rfl, nI_sb (by omega), nI_1]
      exact next _ (vl_next hf d2 dk.1).symm
/-- the reference's reader stands on the token at or behind i -/
def TkM (L : Nat) (c : Nat → Nat) (i : Nat) (g : Mem) : Prop := g 26 8 = nI (tF L c i) ∧ g 26 7 = nI (tB L c i) ∧ g 26 9 = nI (mT L c i) ∧ (tT L c i = 1 → g 26 10 = kwI (kwd c (tF L c i) (tB L c i))) ∧ (mT L c i = 2 → g 26 10 = nI (nv c (tF L c i) (tB L c i)))
theorem mT_of {L : Nat} {c : Nat → Nat} {i : Nat} (h : tT L c i ≠ 2) : mT L c i = tT L c i := by unfold mT; rw [if_neg (fun q => h q.1)]
theorem lp_X7_advF {Γ : Gam} {P : Int32 → Mem → Prop} {L : Nat} {c : Nat → Nat} {g : Mem} {i : Nat} (hL : L ≤ 160) (hc : ∀ j, j < L → c j ≤ 255) (hi : i ≤ L) (hT : TM L c g) (h8 : g 26 8 = nI (tF L c i)) (h7 : g 26 7 = nI (tF L c i)) (hP : ∀ g', frT g g' → TkM L c i g' → P 0 g') : ((0 ≤ chI L c (tF L c i) → (((bi (inI (chI L c (tF L c i)) 97 122)) = 0 → (((bi (inI (chI L c (tF L c i)) 48 57)) = 0 → ((¬ chI L c (tF L c i) = 59 → P 0 (up (up g 26 7 ((g 26 7) + 1)) 26 9 4)) ∧ (chI L c (tF L c i) = 59 → P 0 (up (up g 26 7 ((g 26 7) + 1)) 26 9 3)))) ∧ (¬ (bi (inI (chI L c (tF L c i)) 48 57)) = 0 → AW Γ 3 iX7_advance P 129 [some (.inr 26), some (.inl (chI L c (tF L c i)))] [] (up g 26 10 0)))) ∧ (¬ (bi (inI (chI L c (tF L c i)) 97 122)) = 0 → AW Γ 3 iX7_advance P 66 [some (.inr 26)] [] g))) ∧ (¬ (0 ≤ chI L c (tF L c i)) → P 0 (up g 26 9 0))) := by
  have hF := tF_le (c := c) hi
  have rf : frT g g := ⟨fun _ _ => rfl, fun _ _ _ _ _ => rfl⟩
  rw [chI_w hc, chI_d hc]
  by_cases d : tF L c i < L
  · have hcf := hc _ d
    have eC : chI L c (tF L c i) = nI (c (tF L c i)) := by unfold chI; rw [if_pos d]
    have eT : tT L c i = ty (c (tF L c i)) := by unfold tT; rw [if_pos d]
    rw [eC, ← eT, h7, nI_1, show (0 : Int32) ≤ nI (c (tF L c i)) ↔ True from ⟨fun _ => trivial, fun _ => by rw [show (0 : Int32) = nI 0 from rfl, nI_leI (by decide) (by omega)]; omega⟩]
    refine ⟨fun _ => ⟨fun d1 => ⟨fun d2 => ?_, fun d2 => ?_⟩, fun d1 => ?_⟩, fun q => absurd trivial q⟩
    · rw [bi_eq0, decide_eq_false_iff_not] at d1 d2
      have t1 : ¬ tT L c i = 1 := fun q => d1 ⟨d, q⟩
      have t2 : ¬ tT L c i = 2 := fun q => d2 ⟨d, q⟩
      have eB : tB L c i = tF L c i + 1 := by unfold tB; rw [if_pos d, if_neg (by omega)]
      have done : ∀ v : Int32, v = nI (tT L c i) → P 0 (up (up g 26 7 (nI (tF L c i + 1))) 26 9 v) := by
        intro v ev
        refine hP _ ((rf.up (by decide)).up (by decide)) ⟨by rw [up_nx (by decide), up_nx (by decide)]; exact h8, by rw [up_nx (by decide), up_at, eB], by rw [up_at, mT_of t2]; exact ev, fun q => absurd q t1, fun q => absurd (by rw [mT_of t2] at q; exact q) t2⟩
      rw [show (59 : Int32) = nI 59 from rfl, nI_eq (by omega) (by decide)]
      have e1 : ¬ (97 ≤ c (tF L c i) ∧ c (tF L c i) ≤ 122) := fun q => t1 (by rw [eT]; unfold ty; rw [if_pos q])
      have e2 : ¬ (48 ≤ c (tF L c i) ∧ c (tF L c i) ≤ 57) := fun q => t2 (by rw [eT]; unfold ty; rw [if_neg e1, if_pos q])
      refine ⟨fun q => done 4 ?_, fun q => done 3 ?_⟩
      · rw [eT]; unfold ty; rw [if_neg e1, if_neg e2, if_neg q]; rfl
      · rw [eT]; unfold ty; rw [if_neg e1, if_neg e2, if_pos q]; rfl
    · rw [bi_ne0, decide_eq_true_eq] at d2
      have eB : tB L c i = ff (fun j => !decide (ty (c j) = 2)) (tF L c i) (L - tF L c i) := by
        have e : L - tF L c i = (L - (tF L c i + 1)) + 1 := by omega
        unfold tB
        rw [if_pos d, if_pos (Or.inr d2.2), e, ff_F (by rw [← eT, decide_eq_true d2.2]; rfl), d2.2]
      have hB := (tB_le (c := c) hi).2.2 d
      refine lp_X7_adv129 (g0 := up g 26 10 0) (e := tB L c i) hL hc (hT.frT (rf.up (by decide))) hB (fun g' a1 a2 a3 a4 a5 => ?_) (L - tF L c i) (tF L c i) _ (by omega) (Nat.le_refl _) eB (fun j j1 j2 => absurd j2 (by omega)) ⟨fun _ _ => rfl, fun _ _ _ _ _ => rfl⟩ (by rw [up_nx (by decide)]; exact h7) (by rw [up_nx (by decide)]; exact h8) (by rw [up_at]; unfold vl; rw [if_pos (by omega)]; rfl)
      refine hP g' ((rf.up (by decide)).trans a1) ⟨a3, a2, ?_, fun q => absurd q (by omega), fun q => a5 (fun z => ?_)⟩
      · rw [a4]
        unfold mT
        by_cases z : nv c (tF L c i) (tB L c i) = 100
        · rw [if_pos z, if_pos ⟨d2.2, z⟩]; rfl
        · rw [if_neg z, if_neg (fun y => z y.2), d2.2]; rfl
      · unfold mT at q
        rw [if_pos ⟨d2.2, z⟩] at q
        omega
    · rw [bi_ne0, decide_eq_true_eq] at d1
      have eB : tB L c i = ff (fun j => !decide (ty (c j) = 1)) (tF L c i) (L - tF L c i) := by
        have e : L - tF L c i = (L - (tF L c i + 1)) + 1 := by omega
        unfold tB
        rw [if_pos d, if_pos (Or.inl d1.2), e, ff_F (by rw [← eT, decide_eq_true d1.2]; rfl), d1.2]
      refine lp_X7_adv66 (g0 := g) (f := tF L c i) (e := tB L c i) hL hc hT (fun g' a1 a2 a3 a4 a5 => ?_) (L - tF L c i) (tF L c i) g (by omega) (Nat.le_refl _) eB rf h7 h8
      have t2 : ¬ tT L c i = 2 := by omega
      exact hP g' a1 ⟨a3, a2, by rw [a4, mT_of t2, d1.2]; rfl, fun _ => a5, fun q => absurd (by rw [mT_of t2] at q; exact q) t2⟩
  · have eC : chI L c (tF L c i) = -1 := by unfold chI; rw [if_neg d]
    have eT : tT L c i = 0 := by unfold tT; rw [if_neg d]
    have eB : tB L c i = tF L c i := by unfold tB; rw [if_neg d]
    have t2 : ¬ tT L c i = 2 := by omega
    rw [eC]
    refine ⟨fun q => absurd q (by decide), fun _ => hP _ (rf.up (by decide)) ⟨by rw [up_nx (by decide)]; exact h8, by rw [up_nx (by decide), eB]; exact h7, by rw [up_at, mT_of t2, eT]; rfl, fun q => absurd q (by omega), fun q => absurd (by rw [mT_of t2] at q; exact q) t2⟩⟩
theorem lp_X7_adv0 {Γ : Gam} {P : Int32 → Mem → Prop} {L : Nat} {c : Nat → Nat} {g0 : Mem} {i : Nat} (hL : L ≤ 160) (hc : ∀ j, j < L → c j ≤ 255) (hi : i ≤ L) (hT : TM L c g0) (hP : ∀ g', frT g0 g' → TkM L c i g' → P 0 g') : ∀ n k g, k + n = L → tF L c i = ff (fun j => !decide (c j = 32)) k n → frT g0 g → g 26 7 = nI k → AW Γ 3 iX7_advance P 0 [some (.inr 26)] [] g := by
  have fin : ∀ k g, k ≤ L → tF L c i = k → frT g0 g → g 26 7 = nI k → Runs Γ 1 yX7_characterAt iX7_characterAt [.inr 26, .inl (nI k)] (up g 26 8 (nI k)) (fun r2 g2 => ((0 ≤ r2 → (((bi (inI r2 97 122)) = 0 → (((bi (inI r2 48 57)) = 0 → ((¬ r2 = 59 → P 0 (up (up g2 26 7 ((g2 26 7) + 1)) 26 9 4)) ∧ (r2 = 59 → P 0 (up (up g2 26 7 ((g2 26 7) + 1)) 26 9 3)))) ∧ (¬ (bi (inI r2 48 57)) = 0 → AW Γ 3 iX7_advance P 129 [some (.inr 26), some (.inl r2)] [] (up g2 26 10 0)))) ∧ (¬ (bi (inI r2 97 122)) = 0 → AW Γ 3 iX7_advance P 66 [some (.inr 26)] [] g2))) ∧ (¬ (0 ≤ r2) → P 0 (up g2 26 9 0)))) := by
    intro k g hk e fr e7
    have fr1 : frT g0 (up g 26 8 (nI k)) := fr.up (by decide)
    refine Runs.fn (ct_X7_characterAt hL (hT.frT fr1) (by omega)) ?_
    rw [show (if k < L then nI (c k) else -1) = chI L c k from rfl, ← e]
    exact lp_X7_advF hL hc hi (by rw [e]; exact hT.frT fr1) (by rw [up_at]) (by rw [up_nx (by decide), e]; exact e7) (fun g' a1 a2 => hP g' (by rw [e] at a1; exact fr1.trans a1) a2)
  intro n
  induction n with
  | zero =>
    intro k g hk he fr e7
    rw [ff] at he
    refine sg_X7_advance_0 ?_
    rw [e7]
    refine Runs.fn (ct_X7_characterAt hL (hT.frT fr) (by omega)) ?_
    rw [if_neg (by omega), e7]
    exact ⟨fun _ => fin k g (by omega) he fr e7, fun d => absurd d (by decide)⟩
  | succ n ih =>
    intro k g hk he fr e7
    have hck := hc k (by omega)
    refine sg_X7_advance_0 ?_
    rw [e7]
    refine Runs.fn (ct_X7_characterAt hL (hT.frT fr) (by omega)) ?_
    rw [if_pos (by omega), e7, show (32 : Int32) = nI 32 from rfl, nI_eq (by omega) (by decide), nI_1]
    refine ⟨fun d => ?_, fun d => ?_⟩
    · rw [ff_T (by rw [decide_eq_false d]; rfl)] at he
      exact fin k g (by omega) he fr e7
    · rw [ff_F (by rw [decide_eq_true d]; rfl)] at he
      exact ih (k + 1) _ (by omega) he (fr.up (by decide)) (up_at _ _ _ _)
theorem ct_X7_advance {Γ : Gam} {L : Nat} {c : Nat → Nat} {g : Mem} {i : Nat} (hL : L ≤ 160) (hc : ∀ j, j < L → c j ≤ 255) (hi : i ≤ L) (hT : TM L c g) (h7 : g 26 7 = nI i) : Runs Γ 3 yX7_advance iX7_advance [.inr 26] g (fun _ g' => TkM L c i g' ∧ frT g g') :=
  Runs.intro (by decide) rfl (Nat.le_of_ble_eq_true rfl) (lp_X7_adv0 hL hc hi hT (fun g' a b => ⟨b, a⟩) (L - i) i g (by omega) rfl ⟨fun _ _ => rfl, fun _ _ _ _ _ => rfl⟩ h7)
