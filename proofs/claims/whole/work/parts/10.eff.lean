/-! Saving, copying, beginning a run. -/
theorem cpy_ne {g : Mem} {q0 q1 sp dp n a : Nat} (h : a ≠ q1) : cpy g q0 q1 sp dp n a = g a := by simp [cpy, h]
theorem cpy_same (g : Mem) (q0 q1 sp dp n : Nat) : cpy g q0 q1 sp dp n q1 = va_cpy (g q0) (g q1) sp dp n := by simp [cpy]
theorem fil_ne {g : Mem} {q n a : Nat} {v : Int32} (h : a ≠ q) : fil g q n v a = g a := by simp [fil, h]
theorem fil_at {g : Mem} {q n j : Nat} {v : Int32} (h : j < n) : fil g q n v q j = v := by simp [fil, h]
theorem up_at (g : Mem) (k i : Nat) (v : Int32) : up g k i v k i = v := by simp [up, upd]
theorem up_nx {g : Mem} {k i j : Nat} {v : Int32} (h : j ≠ i) : up g k i v k j = g k j := by simp [up, upd, h]
theorem CS.ext {b : Nat} {s : St} {g g' : Mem} (h : CS b s g) (he : ∀ k, b ≤ k → k < b + 10 → g' k = g k) : CS b s g' := by
  unfold CS at h ⊢
  rw [he b (by omega) (by omega), he (b + 1) (by omega) (by omega), he (b + 2) (by omega) (by omega), he (b + 3) (by omega) (by omega), he (b + 4) (by omega) (by omega), he (b + 5) (by omega) (by omega), he (b + 6) (by omega) (by omega), he (b + 7) (by omega) (by omega), he (b + 8) (by omega) (by omega), he (b + 9) (by omega) (by omega)]
  exact h
theorem isSt_apart {b q : Nat} (hb : isSt b) (hq : isSt q) (hne : b ≠ q) : b + 10 ≤ q ∨ q + 10 ≤ b := by
  unfold isSt at hb hq
  omega
theorem sg_X4_copyFrom_0 {Γ : Gam} {P : Int32 → Mem → Prop} (b : Nat) (hb : isSt b) (q : Nat) (hq : isSt q) {g : Mem} (h : P 0 (cpy (cpy (cpy (up (cpy (cpy (up (cpy (cpy (cpy (cpy (up g b 0 (g q 0)) (q + 1) (b + 1) 0 0 10) (q + 2) (b + 2) 0 0 10) (q + 3) (b + 3) 0 0 10) (q + 4) (b + 4) 0 0 10) b 5 ((cpy (cpy (cpy (cpy (up g b 0 (g q 0)) (q + 1) (b + 1) 0 0 10) (q + 2) (b + 2) 0 0 10) (q + 3) (b + 3) 0 0 10) (q + 4) (b + 4) 0 0 10) q 5)) (q + 5) (b + 5) 0 0 10) (q + 6) (b + 6) 0 0 10) b 8 ((cpy (cpy (up (cpy (cpy (cpy (cpy (up g b 0 (g q 0)) (q + 1) (b + 1) 0 0 10) (q + 2) (b + 2) 0 0 10) (q + 3) (b + 3) 0 0 10) (q + 4) (b + 4) 0 0 10) b 5 ((cpy (cpy (cpy (cpy (up g b 0 (g q 0)) (q + 1) (b + 1) 0 0 10) (q + 2) (b + 2) 0 0 10) (q + 3) (b + 3) 0 0 10) (q + 4) (b + 4) 0 0 10) q 5)) (q + 5) (b + 5) 0 0 10) (q + 6) (b + 6) 0 0 10) q 8)) (q + 7) (b + 7) 0 0 4) (q + 8) (b + 8) 0 0 4) (q + 9) (b + 9) 0 0 10)) : AW Γ 1 iX4_copyFrom P 0 [some (.inr b), some (.inr q)] [] g :=
  (aw_aload_n dX4_copyFrom_0 rfl (aw_aload_n dX4_copyFrom_1 rfl (aw_geti fkX4_9 (fs_0 hq) dX4_copyFrom_2 (aw_putf fpX4_9 (fs_0 hb) (vp_nar_int _) rfl dX4_copyFrom_5 (aw_aload_n dX4_copyFrom_8 rfl (aw_getr (q + 1) fkX4_15 (fs_1 hq) dX4_copyFrom_9 (aw_iconst 0 dX4_copyFrom_12 (by decide) (aw_aload_n dX4_copyFrom_13 rfl (aw_getr (b + 1) fkX4_15 (fs_1 hb) dX4_copyFrom_14 (aw_iconst 0 dX4_copyFrom_17 (by decide) (aw_bipush 10 dX4_copyFrom_18 (by decide) (aw_copy wcpX4_55 (as_1 hq) (as_1 hb) (by decide) (Nat.le_of_ble_eq_true rfl) dX4_copyFrom_20 (by decide) (aw_aload_n dX4_copyFrom_23 rfl (aw_getr (q + 2) fkX4_19 (fs_2 hq) dX4_copyFrom_24 (aw_iconst 0 dX4_copyFrom_27 (by decide) (aw_aload_n dX4_copyFrom_28 rfl (aw_getr (b + 2) fkX4_19 (fs_2 hb) dX4_copyFrom_29 (aw_iconst 0 dX4_copyFrom_32 (by decide) (aw_bipush 10 dX4_copyFrom_33 (by decide) (aw_copy wcpX4_55 (as_2 hq) (as_2 hb) (by decide) (Nat.le_of_ble_eq_true rfl) dX4_copyFrom_35 (by decide) (aw_aload_n dX4_copyFrom_38 rfl (aw_getr (q + 3) fkX4_22 (fs_3 hq) dX4_copyFrom_39 (aw_iconst 0 dX4_copyFrom_42 (by decide) (aw_aload_n dX4_copyFrom_43 rfl (aw_getr (b + 3) fkX4_22 (fs_3 hb) dX4_copyFrom_44 (aw_iconst 0 dX4_copyFrom_47 (by decide) (aw_bipush 10 dX4_copyFrom_48 (by decide) (aw_copy wcpX4_55 (as_3 hq) (as_3 hb) (by decide) (Nat.le_of_ble_eq_true rfl) dX4_copyFrom_50 (by decide) (aw_aload_n dX4_copyFrom_53 rfl (aw_getr (q + 4) fkX4_25 (fs_4 hq) dX4_copyFrom_54 (aw_iconst 0 dX4_copyFrom_57 (by decide) (aw_aload_n dX4_copyFrom_58 rfl (aw_getr (b + 4) fkX4_25 (fs_4 hb) dX4_copyFrom_59 (aw_iconst 0 dX4_copyFrom_62 (by decide) (aw_bipush 10 dX4_copyFrom_63 (by decide) (aw_copy wcpX4_55 (as_4 hq) (as_4 hb) (by decide) (Nat.le_of_ble_eq_true rfl) dX4_copyFrom_65 (by decide) (aw_aload_n dX4_copyFrom_68 rfl (aw_aload_n dX4_copyFrom_69 rfl (aw_geti fkX4_28 (fs_5 hq) dX4_copyFrom_70 (aw_putf fpX4_28 (fs_5 hb) (vp_nar_int _) rfl dX4_copyFrom_73 (aw_aload_n dX4_copyFrom_76 rfl (aw_getr (q + 5) fkX4_31 (fs_6 hq) dX4_copyFrom_77 (aw_iconst 0 dX4_copyFrom_80 (by decide) (aw_aload_n dX4_copyFrom_81 rfl (aw_getr (b + 5) fkX4_31 (fs_6 hb) dX4_copyFrom_82 (aw_iconst 0 dX4_copyFrom_85 (by decide) (aw_bipush 10 dX4_copyFrom_86 (by decide) (aw_copy wcpX4_55 (as_5 hq) (as_5 hb) (by decide) (Nat.le_of_ble_eq_true rfl) dX4_copyFrom_88 (by decide) (aw_aload_n dX4_copyFrom_91 rfl (aw_getr (q + 6) fkX4_34 (fs_7 hq) dX4_copyFrom_92 (aw_iconst 0 dX4_copyFrom_95 (by decide) (aw_aload_n dX4_copyFrom_96 rfl (aw_getr (b + 6) fkX4_34 (fs_7 hb) dX4_copyFrom_97 (aw_iconst 0 dX4_copyFrom_100 (by decide) (aw_bipush 10 dX4_copyFrom_101 (by decide) (aw_copy wcpX4_55 (as_6 hq) (as_6 hb) (by decide) (Nat.le_of_ble_eq_true rfl) dX4_copyFrom_103 (by decide) (aw_aload_n dX4_copyFrom_106 rfl (aw_aload_n dX4_copyFrom_107 rfl (aw_geti fkX4_37 (fs_8 hq) dX4_copyFrom_108 (aw_putf fpX4_37 (fs_8 hb) (vp_nar_int _) rfl dX4_copyFrom_111 (aw_aload_n dX4_copyFrom_114 rfl (aw_getr (q + 7) fkX4_40 (fs_9 hq) dX4_copyFrom_115 (aw_iconst 0 dX4_copyFrom_118 (by decide) (aw_aload_n dX4_copyFrom_119 rfl (aw_getr (b + 7) fkX4_40 (fs_9 hb) dX4_copyFrom_120 (aw_iconst 0 dX4_copyFrom_123 (by decide) (aw_iconst 4 dX4_copyFrom_124 (by decide) (aw_copy wcpX4_55 (as_7 hq) (as_7 hb) (by decide) (Nat.le_of_ble_eq_true rfl) dX4_copyFrom_125 (by decide) (aw_aload_n dX4_copyFrom_128 rfl (aw_getr (q + 8) fkX4_43 (fs_10 hq) dX4_copyFrom_129 (aw_iconst 0 dX4_copyFrom_132 (by decide) (aw_aload_n dX4_copyFrom_133 rfl (aw_getr (b + 8) fkX4_43 (fs_10 hb) dX4_copyFrom_134 (aw_iconst 0 dX4_copyFrom_137 (by decide) (aw_iconst 4 dX4_copyFrom_138 (by decide) (aw_copy wcpX4_55 (as_8 hq) (as_8 hb) (by decide) (Nat.le_of_ble_eq_true rfl) dX4_copyFrom_139 (by decide) (aw_aload_n dX4_copyFrom_142 rfl (aw_getr (q + 9) fkX4_46 (fs_11 hq) dX4_copyFrom_143 (aw_iconst 0 dX4_copyFrom_146 (by decide) (aw_aload_n dX4_copyFrom_147 rfl (aw_getr (b + 9) fkX4_46 (fs_11 hb) dX4_copyFrom_148 (aw_iconst 0 dX4_copyFrom_151 (by decide) (aw_bipush 10 dX4_copyFrom_152 (by decide) (aw_copy wcpX4_55 (as_9 hq) (as_9 hb) (by decide) (Nat.le_of_ble_eq_true rfl) dX4_copyFrom_154 (by decide) (aw_vret rfl dX4_copyFrom_157 h)))))))))))))))))))))))))))))))))))))))))))))))))))))))))))))))))))))))))))))))))))))
theorem ct_X4_copyFrom {Γ : Gam} {b q : Nat} (hb : isSt b) (hq : isSt q) (hne : b ≠ q) {g : Mem} : Runs Γ 1 yX4_copyFrom iX4_copyFrom [.inr b, .inr q] g (fun _ g' => (∀ k, ¬ (b ≤ k ∧ k < b + 10) → g' k = g k) ∧ ∀ s, WF s → CS q s g → CS b s g') := by
  have hd := isSt_apart hb hq hne
  refine Runs.intro (by decide) rfl (Nat.le_of_ble_eq_true rfl) (sg_X4_copyFrom_0 b hb q hq ⟨fun k hk => ?_, fun s hw hc => ?_⟩)
  · simp (disch := omega) only [cpy_ne, up_ne]
  · have h1 := hw.n
    have h2 := hw.nr
    have h3 := hw.nq
    obtain ⟨c1, c2, c3, c4, c5, c6, c7, c8, c9, c10⟩ := hc
    unfold CS
    simp (disch := omega) only [cpy_ne, up_ne, cpy_same, up_same, pk_us, pk_un]
    refine ⟨c1, fun i hi => ?_, fun i hi hk => ?_, fun i hi => ?_, fun i hi => ?_, c6, fun i hi => ?_, c8, fun i hi => ?_, fun i hi => ?_⟩
    · rw [sb_cpy0 (by omega)]; exact c2 i hi
    · rw [sb_cpy0 (by omega)]; exact c3 i hi hk
    · rw [sb_cpy0 (by omega)]; exact c4 i hi
    · rw [sb_cpy0 (by omega)]; exact c5 i hi
    · rw [sb_cpy0 (by omega), sb_cpy0 (by omega)]; exact c7 i hi
    · rw [sb_cpy0 (by omega), sb_cpy0 (by omega)]; exact c9 i hi
    · rw [sb_cpy0 (by omega)]; exact c10 i hi
/-- the saved states, the oldest first: in the reference -/
def HM (hs : List St) (g : Mem) : Prop := hs.length ≤ 5 ∧ g 26 4 = nI hs.length ∧ ∀ i t, hs[i]? = some t → ∀ j, j < 81 → g 29 (81 * i + j) = nI (t j)
def push (hs : List St) (s : St) : List St := if hs.length = 5 then hs.tail ++ [s] else hs ++ [s]
theorem push_len {hs : List St} {s : St} (h : hs.length ≤ 5) : (push hs s).length = if hs.length = 5 then 5 else hs.length + 1 := by
  unfold push
  split
  · rename_i e; simp [e]
  · simp
theorem push_at {hs : List St} {s t : St} {i : Nat} (hl : hs.length ≤ 5) (h : (push hs s)[i]? = some t) : (hs.length = 5 ∧ ((i < 4 ∧ hs[i + 1]? = some t) ∨ (i = 4 ∧ t = s))) ∨ (hs.length < 5 ∧ ((i < hs.length ∧ hs[i]? = some t) ∨ (i = hs.length ∧ t = s))) := by
  unfold push at h
  split at h
  · rename_i e
    left
    refine ⟨e, ?_⟩
    have el : hs.tail.length = 4 := by simp [e]
    rcases Nat.lt_or_ge i 4 with h1 | h1
    · rw [List.getElem?_append_left (by omega), List.getElem?_tail] at h
      exact Or.inl ⟨h1, h⟩
    · rw [List.getElem?_append_right (by omega), el] at h
      have h2 : i - 4 < 1 := (List.getElem?_eq_some_iff.mp h).1
      have h3 : i = 4 := by omega
      subst h3
      simp at h
      exact Or.inr ⟨rfl, h.symm⟩
  · right
    refine ⟨by omega, ?_⟩
    rcases Nat.lt_or_ge i hs.length with h1 | h1
    · rw [List.getElem?_append_left h1] at h
      exact Or.inl ⟨h1, h⟩
    · rw [List.getElem?_append_right h1] at h
      have h2 : i - hs.length < 1 := (List.getElem?_eq_some_iff.mp h).1
      have h3 : i = hs.length := by omega
      subst h3
      simp at h
      exact Or.inr ⟨rfl, h.symm⟩
theorem n81 (d i : Nat) : 81 * nI d + nI i = nI (81 * d + i) := by rw [show (81 : Int32) = nI 81 from rfl, pk_mul, nI_add]
theorem n81' (i : Nat) : 81 + nI i = nI (81 + i) := nI_add 81 i
theorem sg_X7_save_0 {Γ : Gam} {P : Int32 → Mem → Prop}  {g : Mem} (h : ((¬ (g 26 4) = 5 → AW Γ 1 iX7_save P 50 [some (.inr 26), some (.inl 0)] [] g) ∧ ((g 26 4) = 5 → AW Γ 1 iX7_save P 10 [some (.inr 26), some (.inl 0)] [] g))) : AW Γ 1 iX7_save P 0 [some (.inr 26)] [] g :=
  (aw_aload_n dX7_save_0 rfl (aw_geti fkX7_105 fa_26_4 dX7_save_1 (aw_iconst 5 dX7_save_4 (by decide) (aw_icmp_ne 48 dX7_save_5 (by decide) (fun c1 => (aw_iconst 0 dX7_save_48 (by decide) (aw_istore_n [some (.inr 26), some (.inl 0)] dX7_save_49 (by decide) rfl (aw_mask [true, true] rfl (h.1 c1))))) (fun c1 => (aw_iconst 0 dX7_save_8 (by decide) (aw_istore_n [some (.inr 26), some (.inl 0)] dX7_save_9 (by decide) rfl (aw_mask [true, true] rfl (h.2 c1)))))))))
theorem sg_X7_save_50 {Γ : Gam} {P : Int32 → Mem → Prop}  (a1 : Int32) {g : Mem} (h : ((81 ≤ a1 → P 0 (up g 26 4 ((g 26 4) + 1))) ∧ (¬ (81 ≤ a1) → (vp_in a1 81 ∧ (vp_in ((81 * (g 26 4)) + a1) 405 ∧ AW Γ 1 iX7_save P 50 [some (.inr 26), some (.inl (a1 + 1))] [] (up g 29 ((81 * (g 26 4)) + a1).toNatClampNeg (g 27 a1.toNatClampNeg))))))) : AW Γ 1 iX7_save P 50 [some (.inr 26), some (.inl a1)] [] g :=
  (aw_iload_n dX7_save_50 rfl (aw_bipush 81 dX7_save_51 (by decide) (aw_icmp_ge 82 dX7_save_53 (by decide) (fun c1 => (aw_aload_n dX7_save_82 rfl (aw_dup dX7_save_83 (aw_geti fkX7_105 fa_26_4 dX7_save_84 (aw_iconst 1 dX7_save_87 (by decide) (aw_iadd dX7_save_88 (aw_putf fpX7_105 fa_26_4 (vp_nar_int _) rfl dX7_save_89 (aw_vret rfl dX7_save_92 (h.1 c1))))))))) (fun c1 => (aw_aload_n dX7_save_56 rfl (aw_getr 29 fkX7_16 fa_26_3 dX7_save_57 (aw_bipush 81 dX7_save_60 (by decide) (aw_aload_n dX7_save_62 rfl (aw_geti fkX7_105 fa_26_4 dX7_save_63 (aw_imul dX7_save_66 (aw_iload_n dX7_save_67 rfl (aw_iadd dX7_save_68 (aw_aload_n dX7_save_69 rfl (aw_getr 27 fkX7_7 fa_26_1 dX7_save_70 (aw_iload_n dX7_save_73 rfl (aw_iald aa_27 dX7_save_74 (h.2 c1).1 (aw_iast aa_29 dX7_save_75 (h.2 c1).2.1 (aw_iinc (a1 + 1) [some (.inr 26), some (.inl (a1 + 1))] dX7_save_76 rfl (by rfl) (by decide) rfl (aw_goto 50 dX7_save_79 (by decide) (aw_mask [true, true] rfl (h.2 c1).2.2))))))))))))))))))))
theorem sg_X7_save_10 {Γ : Gam} {P : Int32 → Mem → Prop}  (a1 : Int32) {g : Mem} (h : ((324 ≤ a1 → AW Γ 1 iX7_save P 50 [some (.inr 26), some (.inl 0)] [] (up g 26 4 ((g 26 4) - 1))) ∧ (¬ (324 ≤ a1) → (vp_in (81 + a1) 405 ∧ (vp_in a1 405 ∧ AW Γ 1 iX7_save P 10 [some (.inr 26), some (.inl (a1 + 1))] [] (up g 29 a1.toNatClampNeg (g 29 (81 + a1).toNatClampNeg))))))) : AW Γ 1 iX7_save P 10 [some (.inr 26), some (.inl a1)] [] g :=
  (aw_iload_n dX7_save_10 rfl (aw_sipush 324 dX7_save_11 (by decide) (aw_icmp_ge 38 dX7_save_14 (by decide) (fun c1 => (aw_aload_n dX7_save_38 rfl (aw_dup dX7_save_39 (aw_geti fkX7_105 fa_26_4 dX7_save_40 (aw_iconst 1 dX7_save_43 (by decide) (aw_isub dX7_save_44 (aw_putf fpX7_105 fa_26_4 (vp_nar_int _) rfl dX7_save_45 (aw_iconst 0 dX7_save_48 (by decide) (aw_istore_n [some (.inr 26), some (.inl 0)] dX7_save_49 (by decide) rfl (aw_mask [true, true] rfl (h.1 c1))))))))))) (fun c1 => (aw_aload_n dX7_save_17 rfl (aw_getr 29 fkX7_16 fa_26_3 dX7_save_18 (aw_iload_n dX7_save_21 rfl (aw_aload_n dX7_save_22 rfl (aw_getr 29 fkX7_16 fa_26_3 dX7_save_23 (aw_bipush 81 dX7_save_26 (by decide) (aw_iload_n dX7_save_28 rfl (aw_iadd dX7_save_29 (aw_iald aa_29 dX7_save_30 (h.2 c1).1 (aw_iast aa_29 dX7_save_31 (h.2 c1).2.1 (aw_iinc (a1 + 1) [some (.inr 26), some (.inl (a1 + 1))] dX7_save_32 rfl (by rfl) (by decide) rfl (aw_goto 10 dX7_save_35 (by decide) (aw_mask [true, true] rfl (h.2 c1).2.2)))))))))))))))))
theorem lp_X7_save50 {Γ : Gam} {P : Int32 → Mem → Prop} {g : Mem} {d : Nat} (hd : d ≤ 4) (hg : g 26 4 = nI d) (hP : ∀ g', (∀ k, k ≠ 29 → g' k = g k) → (∀ j, j < 81 → g' 29 (81 * d + j) = g 27 j) → (∀ j, j < 81 * d → g' 29 j = g 29 j) → P 0 (up g' 26 4 (nI (d + 1)))) : ∀ n i g', i + n = 81 → (∀ k, k ≠ 29 → g' k = g k) → (∀ j, j < i → g' 29 (81 * d + j) = g 27 j) → (∀ j, j < 81 * d → g' 29 j = g 29 j) → AW Γ 1 iX7_save P 50 [some (.inr 26), some (.inl (nI i))] [] g' := by
  intro n
  induction n with
  | zero =>
    intro i g' hi h1 h2 h3
    have e : i = 81 := by omega
    subst e
    refine sg_X7_save_50 _ ⟨fun _ => ?_, fun c => absurd (nI_le (Nat.le_refl 81) (by decide)) c⟩
    rw [h1 26 (by decide), hg, nI_1]
    exact hP g' h1 h2 h3
  | succ n ih =>
    intro i g' hi h1 h2 h3
    refine sg_X7_save_50 _ ⟨fun c => absurd c (nI_ge (show i < 81 by omega) (by decide)), fun _ => ?_⟩
    rw [h1 26 (by decide), hg, n81, nI_1, ix_nI (by omega), ix_nI (by omega), h1 27 (by decide)]
    refine ⟨vp_nI (by omega) (by decide), vp_nI (by omega) (by decide), ih (i + 1) _ (by omega) (fun k hk => by rw [up_ne hk, h1 k hk]) (fun j hj => ?_) (fun j hj => ?_)⟩
    · rcases Nat.lt_or_ge j i with q | q
      · rw [up_nx (by omega)]; exact h2 j q
      · have e : j = i := by omega
        subst e
        rw [up_at]
    · rw [up_nx (by omega)]; exact h3 j hj
theorem lp_X7_save10 {Γ : Gam} {P : Int32 → Mem → Prop} {g : Mem} (hP : ∀ g', (∀ k, k ≠ 29 → g' k = g k) → (∀ j, j < 324 → g' 29 j = g 29 (81 + j)) → AW Γ 1 iX7_save P 50 [some (.inr 26), some (.inl 0)] [] (up g' 26 4 (g 26 4 - 1))) : ∀ n i g', i + n = 324 → (∀ k, k ≠ 29 → g' k = g k) → (∀ j, j < i → g' 29 j = g 29 (81 + j)) → (∀ j, i ≤ j → g' 29 j = g 29 j) → AW Γ 1 iX7_save P 10 [some (.inr 26), some (.inl (nI i))] [] g' := by
  intro n
  induction n with
  | zero =>
    intro i g' hi h1 h2 h3
    have e : i = 324 := by omega
    subst e
    refine sg_X7_save_10 _ ⟨fun _ => ?_, fun c => absurd (nI_le (Nat.le_refl 324) (by decide)) c⟩
    rw [h1 26 (by decide)]
    exact hP g' h1 h2
  | succ n ih =>
    intro i g' hi h1 h2 h3
    refine sg_X7_save_10 _ ⟨fun c => absurd c (nI_ge (show i < 324 by omega) (by decide)), fun _ => ?_⟩
    rw [n81', nI_1, ix_nI (by omega), ix_nI (by omega)]
    refine ⟨vp_nI (by omega) (by decide), vp_nI (by omega) (by decide), ih (i + 1) _ (by omega) (fun k hk => by rw [up_ne hk, h1 k hk]) (fun j hj => ?_) (fun j hj => ?_)⟩
    · rcases Nat.lt_or_ge j i with q | q
      · rw [up_nx (by omega)]; exact h2 j q
      · have e : j = i := by omega
        subst e
        rw [up_at, h3 _ (by omega)]
    · rw [up_nx (by omega)]; exact h3 j (by omega)
theorem ct_X7_save {Γ : Gam} {s : St} {hs : List St} {g : Mem} (h : MA 27 s g) (hh : HM hs g) : Runs Γ 1 yX7_save iX7_save [.inr 26] g (fun _ g' => HM (push hs s) g' ∧ (∀ k, k ≠ 26 → k ≠ 29 → g' k = g k) ∧ ∀ j, j ≠ 4 → g' 26 j = g 26 j) := by
  obtain ⟨hl, hd, hv⟩ := hh
  refine Runs.intro (by decide) rfl (Nat.le_of_ble_eq_true rfl) (sg_X7_save_0 ⟨fun c => ?_, fun c => ?_⟩)
  · have hne : hs.length ≠ 5 := fun e => c (by rw [hd, e]; rfl)
    refine lp_X7_save50 (g := g) (d := hs.length) (by omega) hd (fun g' h1 h2 h3 => ?_) 81 0 g rfl (fun _ _ => rfl) (fun j hj => by omega) (fun _ _ => rfl)
    refine ⟨⟨by rw [push_len hl, if_neg hne]; omega, ?_, fun i t hi j hj => ?_⟩, fun k k1 k2 => by rw [up_ne k1, h1 k k2], fun j hj => by rw [up_nx hj, h1 26 (by decide)]⟩
    · rw [up_at, push_len hl, if_neg hne]
    · rw [up_ne (by decide)]
      rcases push_at hl hi with ⟨e, -⟩ | ⟨-, ⟨i1, i2⟩ | ⟨i1, i2⟩⟩
      · exact absurd e hne
      · rw [h3 _ (by omega)]; exact hv i t i2 j hj
      · subst i1; subst i2
        rw [h2 j hj]; exact h j hj
  · have he : hs.length = 5 := by
      rw [hd, show (5 : Int32) = nI 5 from rfl, nI_eq (by omega) (by decide)] at c
      exact c
    refine lp_X7_save10 (g := g) (fun g1 h1 h2 => ?_) 324 0 g rfl (fun _ _ => rfl) (fun j hj => by omega) (fun _ _ => rfl)
    have e4 : g 26 4 - 1 = nI 4 := by rw [hd, he]; rfl
    rw [e4]
    refine lp_X7_save50 (g := up g1 26 4 (nI 4)) (d := 4) (by omega) (up_at _ _ _ _) (fun g' h3 h4 h5 => ?_) 81 0 _ rfl (fun _ _ => rfl) (fun j hj => by omega) (fun _ _ => rfl)
    refine ⟨⟨by rw [push_len hl, if_pos he]; omega, ?_, fun i t hi j hj => ?_⟩, fun k k1 k2 => by rw [up_ne k1, h3 k k2, up_ne k1, h1 k k2], fun j hj => by rw [up_nx hj, h3 26 (by decide), up_nx hj, h1 26 (by decide)]⟩
    · rw [up_at, push_len hl, if_pos he]
    · rw [up_ne (by decide)]
      rcases push_at hl hi with ⟨-, ⟨i1, i2⟩ | ⟨i1, i2⟩⟩ | ⟨e, -⟩
      · rw [h5 _ (by omega), up_ne (by decide), h2 _ (by omega), show 81 + (81 * i + j) = 81 * (i + 1) + j by omega]
        exact hv (i + 1) t i2 j hj
      · subst i1; subst i2
        rw [h4 j hj, up_ne (by decide), h1 27 (by decide)]; exact h j hj
      · omega
/-- the rows of the initial references, without those whose bit is set in rem -/
def rowsK (s : St) (rem : Nat) : Nat → Nat → Nat
  | 0, _ => 0
  | k + 1, i => if rem.testBit k then rowsK s rem k i else if i = s (42 + 2 * k) then rowsK s rem k i ||| 2 ^ (s (42 + 2 * k + 1)) else rowsK s rem k i
theorem rowsK_lt {s : St} (hw : WF s) (rem : Nat) (i : Nat) : ∀ k, k ≤ s 41 → rowsK s rem k i < 1024
  | 0, _ => by rw [rowsK]; decide
  | k + 1, h => by
    have ih := rowsK_lt hw rem i k (by omega)
    rw [rowsK]
    split
    · exact ih
    · split
      · have := (hw.rf (k := k) (by omega)).2.2
        have hn := hw.n
        exact Nat.or_lt_two_pow (n := 10) ih (Nat.pow_lt_pow_of_lt (by decide) (by omega))
      · exact ih
/-- the run begun again -/
def beg (s : St) : St := fun j => if 71 ≤ j ∧ j < 81 then rowsK s 0 (s 41) (j - 71) else s j
theorem beg_lo {s : St} {j : Nat} (h : j < 71) : beg s j = s j := by simp [beg]; omega
theorem beg_run {s : St} {i : Nat} (h : i < 10) : beg s (71 + i) = rowsK s 0 (s 41) i := by
  unfold beg
  rw [if_pos (by omega), show 71 + i - 71 = i by omega]
theorem fa_or' (a b : Nat) : nI a ||| nI b = nI (a ||| b) := by
  apply Int32.toBitVec_inj.mp
  show (nI a).toBitVec ||| (nI b).toBitVec = (nI (a ||| b)).toBitVec
  apply BitVec.eq_of_toNat_eq
  simp only [nI, Int32.ofNat, BitVec.toNat_or]
  simp [Int32.toBitVec, Nat.or_mod_two_pow]
theorem sg_X4_fillInitialRows_0 {Γ : Gam} {P : Int32 → Mem → Prop} (b : Nat) (hb : isSt b) (q : Nat) (hq : aAt q = some (0, 10)) (a2 : Int32) {g : Mem} (h : AW Γ 2 iX4_fillInitialRows P 7 [some (.inr b), some (.inr q), some (.inl a2), some (.inl 0)] [] (fil g q 10 0)) : AW Γ 2 iX4_fillInitialRows P 0 [some (.inr b), some (.inr q), some (.inl a2)] [] g :=
  (aw_aload_n dX4_fillInitialRows_0 rfl (aw_iconst 0 dX4_fillInitialRows_1 (by decide) (aw_callSv lkX4_49 ckJ7_fill_53178 (d := 1) (by decide) [.inr q, .inl 0] rfl rfl (Nat.le_of_ble_eq_true rfl) dX4_fillInitialRows_2 rfl (Runs.fn (ct_J7_fill hq (by decide)) (aw_iconst 0 dX4_fillInitialRows_5 (by decide) (aw_istore_n [some (.inr b), some (.inr q), some (.inl a2), some (.inl 0)] dX4_fillInitialRows_6 (by decide) rfl (aw_mask [true, true, true, true] rfl h)))))))
theorem sg_X4_fillInitialRows_7 {Γ : Gam} {P : Int32 → Mem → Prop} (b : Nat) (hb : isSt b) (q : Nat) (hq : aAt q = some (0, 10)) (a2 a3 : Int32) {g : Mem} (h : (((g b 5) ≤ a3 → P 0 g) ∧ (¬ ((g b 5) ≤ a3) → ((¬ (bi (hasB a2 a3)) = 0 → AW Γ 2 iX4_fillInitialRows P 7 [some (.inr b), some (.inr q), some (.inl a2), some (.inl (a3 + 1))] [] g) ∧ ((bi (hasB a2 a3)) = 0 → (vp_in a3 10 ∧ (vp_in (g (b + 5) a3.toNatClampNeg) 10 ∧ (vp_in a3 10 ∧ (vp_in (g (b + 5) a3.toNatClampNeg) 10 ∧ AW Γ 2 iX4_fillInitialRows P 7 [some (.inr b), some (.inr q), some (.inl a2), some (.inl (a3 + 1))] [] (up g q (g (b + 5) a3.toNatClampNeg).toNatClampNeg ((g q (g (b + 5) a3.toNatClampNeg).toNatClampNeg) ||| (1 <<< ((g (b + 6) a3.toNatClampNeg) &&& 31))))))))))))) : AW Γ 2 iX4_fillInitialRows P 7 [some (.inr b), some (.inr q), some (.inl a2), some (.inl a3)] [] g :=
  (aw_iload_n dX4_fillInitialRows_7 rfl (aw_aload_n dX4_fillInitialRows_8 rfl (aw_geti fkX4_28 (fs_5 hb) dX4_fillInitialRows_9 (aw_icmp_ge 49 dX4_fillInitialRows_12 (by decide) (fun c1 => (aw_vret rfl dX4_fillInitialRows_49 (h.1 c1))) (fun c1 => (aw_iload_n dX4_fillInitialRows_15 rfl (aw_iload_n dX4_fillInitialRows_16 rfl (aw_callSNi nkX4_72 ckX6_contains (d := 1) (by decide) [.inl a2, .inl a3] rfl rfl (Nat.le_of_ble_eq_true rfl) dX4_fillInitialRows_17 rfl (Runs.fn ct_X6_contains (aw_if_ne 43 dX4_fillInitialRows_20 (by decide) (fun c2 => (aw_iinc (a3 + 1) [some (.inr b), some (.inr q), some (.inl a2), some (.inl (a3 + 1))] dX4_fillInitialRows_43 rfl (by rfl) (by decide) rfl (aw_goto 7 dX4_fillInitialRows_46 (by decide) (aw_mask [true, true, true, true] rfl ((h.2 c1).1 c2))))) (fun c2 => (aw_aload_n dX4_fillInitialRows_23 rfl (aw_aload_n dX4_fillInitialRows_24 rfl (aw_getr (b + 5) fkX4_31 (fs_6 hb) dX4_fillInitialRows_25 (aw_iload_n dX4_fillInitialRows_28 rfl (aw_iald (as_5 hb) dX4_fillInitialRows_29 ((h.2 c1).2 c2).1 (aw_dup2 dX4_fillInitialRows_30 (aw_iald hq dX4_fillInitialRows_31 ((h.2 c1).2 c2).2.1 (aw_aload_n dX4_fillInitialRows_32 rfl (aw_getr (b + 6) fkX4_34 (fs_7 hb) dX4_fillInitialRows_33 (aw_iload_n dX4_fillInitialRows_36 rfl (aw_iald (as_6 hb) dX4_fillInitialRows_37 ((h.2 c1).2 c2).2.2.1 (aw_callSNi nkX4_75 ckX6_bit (d := 1) (by decide) [.inl (g (b + 6) a3.toNatClampNeg)] rfl rfl (Nat.le_of_ble_eq_true rfl) dX4_fillInitialRows_38 rfl (Runs.fn ct_X6_bit (aw_ior dX4_fillInitialRows_41 (aw_iast hq dX4_fillInitialRows_42 ((h.2 c1).2 c2).2.2.2.1 (aw_iinc (a3 + 1) [some (.inr b), some (.inr q), some (.inl a2), some (.inl (a3 + 1))] dX4_fillInitialRows_43 rfl (by rfl) (by decide) rfl (aw_goto 7 dX4_fillInitialRows_46 (by decide) (aw_mask [true, true, true, true] rfl ((h.2 c1).2 c2).2.2.2.2)))))))))))))))))))))))))))))
theorem lp_X4_fill {Γ : Gam} {P : Int32 → Mem → Prop} {b q : Nat} (hb : isSt b) (hq : aAt q = some (0, 10)) (h1 : q ≠ b) (h2 : q ≠ b + 5) (h3 : q ≠ b + 6) {s : St} {g : Mem} (h : CW b s g) {rem : Nat} (hrem : rem < 2 ^ 31) (hP : ∀ g', (∀ k, k ≠ q → g' k = g k) → (∀ i, i < 10 → g' q i = nI (rowsK s rem (s 41) i)) → P 0 g') : ∀ n k g', k + n = s 41 → (∀ k, k ≠ q → g' k = g k) → (∀ i, i < 10 → g' q i = nI (rowsK s rem k i)) → AW Γ 2 iX4_fillInitialRows P 7 [some (.inr b), some (.inr q), some (.inl (nI rem)), some (.inl (nI k))] [] g' := by
  intro n
  have hr := h.2.nr
  induction n with
  | zero =>
    intro k g' hk e1 e2
    refine sg_X4_fillInitialRows_7 b hb q hq _ _ ?_
    rw [e1 b (Ne.symm h1), h.1.2.2.2.2.2.1]
    refine ⟨fun _ => hP g' e1 (by rw [show s 41 = k by omega]; exact e2), fun c => absurd (nI_le (by omega) (by omega)) c⟩
  | succ n ih =>
    intro k g' hk e1 e2
    obtain ⟨c1, c2⟩ := h.1.2.2.2.2.2.2.1 k (by omega)
    obtain ⟨r1, r2, r3⟩ := h.2.rf (k := k) (by omega)
    have hn := h.2.n
    refine sg_X4_fillInitialRows_7 b hb q hq _ _ ?_
    rw [e1 b (Ne.symm h1), h.1.2.2.2.2.2.1, e1 (b + 5) (Ne.symm h2), e1 (b + 6) (Ne.symm h3), nI_1, ix_nI (n := k) (by omega), c1, c2, ix_nI (by omega), hasB_nI hrem (by omega), bit_nI (by omega), e2 _ (by omega), fa_or']
    refine ⟨fun c => absurd c (nI_ge (by omega) (by omega)), fun _ => ⟨fun c => ?_, fun c => ?_⟩⟩
    · rw [bi_ne0] at c
      exact ih (k + 1) g' (by omega) e1 (fun i hi => by rw [rowsK, if_pos c]; exact e2 i hi)
    · rw [bi_eq0] at c
      refine ⟨vp_nI (by omega) (by decide), vp_nI (by omega) (by decide), vp_nI (by omega) (by decide), vp_nI (by omega) (by decide), ih (k + 1) _ (by omega) (fun j hj => by rw [up_ne hj, e1 j hj]) (fun i hi => ?_)⟩
      rw [rowsK, if_neg (by rw [c]; decide)]
      by_cases hi2 : i = s (42 + 2 * k)
      · subst hi2
        rw [up_at, if_pos rfl]
      · rw [up_nx hi2, if_neg hi2]; exact e2 i hi
theorem ct_X4_fillInitialRows {Γ : Gam} {b q : Nat} (hb : isSt b) (hq : aAt q = some (0, 10)) (h1 : q ≠ b) (h2 : q ≠ b + 5) (h3 : q ≠ b + 6) {s : St} {g : Mem} (h : CW b s g) {rem : Nat} (hrem : rem < 2 ^ 31) : Runs Γ 2 yX4_fillInitialRows iX4_fillInitialRows [.inr b, .inr q, .inl (nI rem)] g (fun _ g' => (∀ k, k ≠ q → g' k = g k) ∧ ∀ i, i < 10 → g' q i = nI (rowsK s rem (s 41) i)) :=
  Runs.intro (by decide) rfl (Nat.le_of_ble_eq_true rfl) (sg_X4_fillInitialRows_0 b hb q hq _ (lp_X4_fill hb hq h1 h2 h3 h hrem (fun g' a b => ⟨a, b⟩) (s 41) 0 _ (by omega) (fun k hk => fil_ne hk) (fun i hi => by rw [fil_at hi]; rfl)))
theorem sg_X4_startRun_0 {Γ : Gam} {P : Int32 → Mem → Prop} (b : Nat) (hb : isSt b) {g : Mem} (h : (Runs Γ 2 yX4_fillInitialRows iX4_fillInitialRows [.inr b, .inr (b + 9), .inl 0] g (fun r1 g1 => P 0 g1))) : AW Γ 3 iX4_startRun P 0 [some (.inr b)] [] g :=
  (aw_aload_n dX4_startRun_0 rfl (aw_aload_n dX4_startRun_1 rfl (aw_getr (b + 9) fkX4_46 (fs_11 hb) dX4_startRun_2 (aw_iconst 0 dX4_startRun_5 (by decide) (aw_callVv lkX4_79 ckX4_fillInitialRows (cs_ hb) rfl (d := 2) (by decide) [.inr (b + 9), .inl 0] rfl rfl (Nat.le_of_ble_eq_true rfl) dX4_startRun_6 rfl (Runs.mono h (fun r1 g1 h1_ => (aw_vret rfl dX4_startRun_9 h1_))))))))
theorem ct_X4_startRun {Γ : Gam} {b : Nat} (hb : isSt b) {s : St} {g : Mem} (h : CW b s g) : Runs Γ 3 yX4_startRun iX4_startRun [.inr b] g (fun _ g' => (∀ k, k ≠ b + 9 → g' k = g k) ∧ CS b (beg s) g') := by
  refine Runs.intro (by decide) rfl (Nat.le_of_ble_eq_true rfl) (sg_X4_startRun_0 b hb ((ct_X4_fillInitialRows hb (as_9 hb) (by omega) (by omega) (by omega) h (rem := 0) (by decide)).mono (fun r g' q => ⟨q.1, ?_⟩)))
  obtain ⟨q1, q2⟩ := q
  obtain ⟨c1, c2, c3, c4, c5, c6, c7, c8, c9, c10⟩ := h.1
  have hn := h.2.n
  have hr := h.2.nr
  have hq := h.2.nq
  unfold CS
  rw [q1 b (by omega), q1 (b + 1) (by omega), q1 (b + 2) (by omega), q1 (b + 3) (by omega), q1 (b + 4) (by omega), q1 (b + 5) (by omega), q1 (b + 6) (by omega), q1 (b + 7) (by omega), q1 (b + 8) (by omega), beg_lo (show 0 < 71 by decide), beg_lo (show 41 < 71 by decide), beg_lo (show 62 < 71 by decide)]
  refine ⟨c1, fun i hi => ?_, fun i hi hk => ?_, fun i hi => ?_, fun i hi => ?_, c6, fun i hi => ?_, c8, fun i hi => ?_, fun i hi => ?_⟩
  · rw [beg_lo (by omega)]; exact c2 i hi
  · rw [beg_lo (by omega)] at hk ⊢; exact c3 i hi hk
  · rw [beg_lo (by omega), beg_lo (by omega), beg_lo (by omega)]; exact c4 i hi
  · rw [beg_lo (by omega)]; exact c5 i hi
  · rw [beg_lo (by omega), beg_lo (by omega)]; exact c7 i hi
  · rw [beg_lo (by omega), beg_lo (by omega)]; exact c9 i hi
  · rw [beg_run hi]; exact q2 i hi
