/-! The reference's smallestRepair. -/
def rp (s : St) (m : Nat) : Prop := vio s (fnd s m) (s 62) = 0
/-- m is the repair of fewest references, and of those the least number -/
def Best (s : St) (m : Nat) : Prop := m < 2 ^ s 41 ∧ rp s m ∧ ∀ m', m' < 2 ^ s 41 → rp s m' → pop m 10 < pop m' 10 ∨ (pop m 10 = pop m' 10 ∧ m ≤ m')
theorem Best_eq {s : St} {m m' : Nat} (h : Best s m) (h' : Best s m') : m = m' := by
  have a := h.2.2 m' h'.1 h'.2.1
  have b := h'.2.2 m h.1 h.2.1
  omega
noncomputable def bst (s : St) : Nat := Classical.epsilon (Best s)
theorem bst_eq {s : St} {m : Nat} (h : Best s m) : bst s = m := Best_eq (Classical.epsilon_spec ⟨m, h⟩) h
theorem rowsK_all (s : St) {n : Nat} (i : Nat) : ∀ k, k ≤ n → rowsK s (2 ^ n - 1) k i = 0
  | 0, _ => by rw [rowsK]
  | k + 1, h => by
    rw [rowsK, Nat.testBit_two_pow_sub_one, decide_eq_true (by omega), if_pos rfl]
    exact rowsK_all s i k (by omega)
theorem der_none (s : St) (a b : Nat) : der s (fun _ _ => false) a b = false := by
  cases e : der s (fun _ _ => false) a b with
  | false => rfl
  | true =>
    obtain ⟨r, x, -, -, -, h⟩ := der_iff.mp e
    unfold qq q1 q2 q3 q4 q5 at h
    repeat' split at h
    all_goals simp at h
theorem fnd_nil (s : St) (a b : Nat) : fnd s (2 ^ s 41 - 1) a b = false := by
  cases e : fnd s (2 ^ s 41 - 1) a b with
  | false => rfl
  | true =>
    exact Bool.noConfusion (fnd_least (G := fun _ _ => false) (fun a b h => by unfold ini at h; rw [rowsK_all s a _ (Nat.le_refl _), Nat.zero_testBit] at h; exact h) (fun a b _ _ h => by rw [der_none] at h; exact h) e)
theorem vio_none (s : St) {E : Rel} (h : ∀ a b, E a b = false) : ∀ k, vio s E k = 0
  | 0 => rfl
  | k + 1 => by rw [vio, vio_none s h k, h, if_neg (by decide)]
theorem rp_all (s : St) : rp s (2 ^ s 41 - 1) := vio_none s (fnd_nil s) _
theorem pop_le {m n : Nat} (h : m < 2 ^ n) : ∀ k, pop m k ≤ n ∧ pop m k ≤ k
  | 0 => ⟨Nat.zero_le _, Nat.le_refl _⟩
  | k + 1 => by
    have ih := pop_le h k
    rw [pop]
    rcases Nat.lt_or_ge k n with q | q
    · split <;> omega
    · rw [Nat.testBit_lt_two_pow (Nat.lt_of_lt_of_le h (Nat.pow_le_pow_right (by decide) q))]
      simp; omega
theorem vio_le (s : St) (E : Rel) : ∀ k, vio s E k ≤ k
  | 0 => Nat.le_refl _
  | k + 1 => by
    have ih := vio_le s E k
    rw [vio]
    split <;> omega
theorem frA.trans {g1 g2 g3 : Mem} (h : frA g1 g2) (h' : frA g2 g3) : frA g1 g3 := ⟨fun k a b => by rw [h'.1 k a b, h.1 k a b], fun j a => by rw [h'.2 j a, h.2 j a]⟩
theorem MW.frA {s : St} {g g' : Mem} (h : MW 27 s g) (hf : frA g g') : MW 27 s g' := ⟨fun j hj => by rw [hf.1 27 (by decide) (by decide)]; exact h.1 j hj, h.2⟩
theorem sg_X7_smallestRepair_0 {Γ : Gam} {P : Int32 → Mem → Prop}  {g : Mem} (h : AW Γ 11 iX7_smallestRepair P 10 [some (.inr 26), some (.inl (-9)), some (.inl 0)] [] (up g 26 0 0)) : AW Γ 11 iX7_smallestRepair P 0 [some (.inr 26)] [] g :=
  (aw_aload_n dX7_smallestRepair_0 rfl (aw_iconst 0 dX7_smallestRepair_1 (by decide) (aw_putf fpX7_32 fa_26_0 (vp_nar_int _) rfl dX7_smallestRepair_2 (aw_bipush (-9) dX7_smallestRepair_5 (by decide) (aw_istore_n [some (.inr 26), some (.inl (-9))] dX7_smallestRepair_7 (by decide) rfl (aw_iconst 0 dX7_smallestRepair_8 (by decide) (aw_istore_n [some (.inr 26), some (.inl (-9)), some (.inl 0)] dX7_smallestRepair_9 (by decide) rfl (aw_mask [true, true, true] rfl h))))))))
theorem sg_X7_smallestRepair_10 {Γ : Gam} {P : Int32 → Mem → Prop}  (a1 a2 : Int32) {g : Mem} (h : (((g 27 41) < a2 → P a1 g) ∧ (¬ ((g 27 41) < a2) → ((¬ a1 = (-9) → P a1 g) ∧ (a1 = (-9) → AW Γ 11 iX7_smallestRepair P 29 [some (.inr 26), some (.inl a1), some (.inl a2), some (.inl 0)] [] g))))) : AW Γ 11 iX7_smallestRepair P 10 [some (.inr 26), some (.inl a1), some (.inl a2)] [] g :=
  (aw_iload_n dX7_smallestRepair_10 rfl (aw_aload_n dX7_smallestRepair_11 rfl (aw_getr 27 fkX7_7 fa_26_1 dX7_smallestRepair_12 (aw_bipush 41 dX7_smallestRepair_15 (by decide) (aw_iald aa_27 dX7_smallestRepair_17 (vp_lit 41 (by decide) (by decide)) (aw_icmp_gt 87 dX7_smallestRepair_18 (by decide) (fun c1 => (aw_iload_n dX7_smallestRepair_87 rfl (aw_iret rfl (vp_nar_int _) dX7_smallestRepair_88 (h.1 c1)))) (fun c1 => (aw_iload_n dX7_smallestRepair_21 rfl (aw_bipush (-9) dX7_smallestRepair_22 (by decide) (aw_icmp_ne 87 dX7_smallestRepair_24 (by decide) (fun c2 => (aw_iload_n dX7_smallestRepair_87 rfl (aw_iret rfl (vp_nar_int _) dX7_smallestRepair_88 ((h.2 c1).1 c2)))) (fun c2 => (aw_iconst 0 dX7_smallestRepair_27 (by decide) (aw_istore_n [some (.inr 26), some (.inl a1), some (.inl a2), some (.inl 0)] dX7_smallestRepair_28 (by decide) rfl (aw_mask [true, true, true, true] rfl ((h.2 c1).2 c2)))))))))))))))
theorem sg_X7_smallestRepair_29 {Γ : Gam} {P : Int32 → Mem → Prop}  (a1 a2 a3 : Int32) {g : Mem} (h : (((1 <<< ((g 27 41) &&& 31)) ≤ a3 → AW Γ 11 iX7_smallestRepair P 10 [some (.inr 26), some (.inl a1), some (.inl (a2 + 1))] [] g) ∧ (¬ ((1 <<< ((g 27 41) &&& 31)) ≤ a3) → ((¬ a1 = (-9) → AW Γ 11 iX7_smallestRepair P 10 [some (.inr 26), some (.inl a1), some (.inl (a2 + 1))] [] g) ∧ (a1 = (-9) → (Runs Γ 1 yX7_bitCount iX7_bitCount [.inl a3] g (fun r1 g1 => ((¬ r1 = a2 → AW Γ 11 iX7_smallestRepair P 29 [some (.inr 26), some (.inl a1), some (.inl a2), some (.inl (a3 + 1))] [] g1) ∧ (r1 = a2 → (Runs Γ 10 yX7_analyse iX7_analyse [.inr 26, .inl a3] g1 (fun r2 g2 => (Runs Γ 1 yX7_violations iX7_violations [.inr 26] g2 (fun r3 g3 => ((¬ r3 = 0 → AW Γ 11 iX7_smallestRepair P 29 [some (.inr 26), some (.inl (-9)), some (.inl a2), some (.inl (a3 + 1))] [] g3) ∧ (r3 = 0 → AW Γ 11 iX7_smallestRepair P 29 [some (.inr 26), some (.inl a3), some (.inl a2), some (.inl (a3 + 1))] [] g3))))))))))))))) : AW Γ 11 iX7_smallestRepair P 29 [some (.inr 26), some (.inl a1), some (.inl a2), some (.inl a3)] [] g :=
  (aw_iload_n dX7_smallestRepair_29 rfl (aw_iconst 1 dX7_smallestRepair_30 (by decide) (aw_aload_n dX7_smallestRepair_31 rfl (aw_getr 27 fkX7_7 fa_26_1 dX7_smallestRepair_32 (aw_bipush 41 dX7_smallestRepair_35 (by decide) (aw_iald aa_27 dX7_smallestRepair_37 (vp_lit 41 (by decide) (by decide)) (aw_ishl dX7_smallestRepair_38 (aw_icmp_ge 81 dX7_smallestRepair_39 (by decide) (fun c1 => (aw_iinc (a2 + 1) [some (.inr 26), some (.inl a1), some (.inl (a2 + 1)), some (.inl a3)] dX7_smallestRepair_81 rfl (by rfl) (by decide) rfl (aw_goto 10 dX7_smallestRepair_84 (by decide) (aw_mask [true, true, true] rfl (h.1 c1))))) (fun c1 => (aw_iload_n dX7_smallestRepair_42 rfl (aw_bipush (-9) dX7_smallestRepair_43 (by decide) (aw_icmp_ne 81 dX7_smallestRepair_45 (by decide) (fun c2 => (aw_iinc (a2 + 1) [some (.inr 26), some (.inl a1), some (.inl (a2 + 1)), some (.inl a3)] dX7_smallestRepair_81 rfl (by rfl) (by decide) rfl (aw_goto 10 dX7_smallestRepair_84 (by decide) (aw_mask [true, true, true] rfl ((h.2 c1).1 c2))))) (fun c2 => (aw_iload_n dX7_smallestRepair_48 rfl (aw_callSi lkX7_194 ckX7_bitCount (d := 1) (by decide) [.inl a3] rfl rfl (Nat.le_of_ble_eq_true rfl) dX7_smallestRepair_49 rfl (Runs.mono ((h.2 c1).2 c2) (fun r1 g1 h1_ => (aw_iload_n dX7_smallestRepair_52 rfl (aw_icmp_ne 75 dX7_smallestRepair_53 (by decide) (fun c3 => (aw_iinc (a3 + 1) [some (.inr 26), some (.inl a1), some (.inl a2), some (.inl (a3 + 1))] dX7_smallestRepair_75 rfl (by rfl) (by decide) rfl (aw_goto 29 dX7_smallestRepair_78 (by decide) (aw_mask [true, true, true, true] rfl (h1_.1 c3))))) (fun c3 => (aw_aload_n dX7_smallestRepair_56 rfl (aw_iload_n dX7_smallestRepair_57 rfl (aw_callVv lkX7_163 ckX7_analyse ca_26 rfl (d := 10) (by decide) [.inl a3] rfl rfl (Nat.le_of_ble_eq_true rfl) dX7_smallestRepair_58 rfl (Runs.mono (h1_.2 c3) (fun r2 g2 h2_ => (aw_aload_n dX7_smallestRepair_61 rfl (aw_callVi lkX7_191 ckX7_violations ca_26 rfl (d := 1) (by decide) [] rfl rfl (Nat.le_of_ble_eq_true rfl) dX7_smallestRepair_62 rfl (Runs.mono h2_ (fun r3 g3 h3_ => (aw_if_ne 72 dX7_smallestRepair_65 (by decide) (fun c4 => (aw_bipush (-9) dX7_smallestRepair_72 (by decide) (aw_istore_n [some (.inr 26), some (.inl (-9)), some (.inl a2), some (.inl a3)] dX7_smallestRepair_74 (by decide) rfl (aw_iinc (a3 + 1) [some (.inr 26), some (.inl (-9)), some (.inl a2), some (.inl (a3 + 1))] dX7_smallestRepair_75 rfl (by rfl) (by decide) rfl (aw_goto 29 dX7_smallestRepair_78 (by decide) (aw_mask [true, true, true, true] rfl (h3_.1 c4))))))) (fun c4 => (aw_iload_n dX7_smallestRepair_68 rfl (aw_goto 74 dX7_smallestRepair_69 (by decide) (aw_istore_n [some (.inr 26), some (.inl a3), some (.inl a2), some (.inl a3)] dX7_smallestRepair_74 (by decide) rfl (aw_iinc (a3 + 1) [some (.inr 26), some (.inl a3), some (.inl a2), some (.inl (a3 + 1))] dX7_smallestRepair_75 rfl (by rfl) (by decide) rfl (aw_goto 29 dX7_smallestRepair_78 (by decide) (aw_mask [true, true, true, true] rfl (h3_.2 c4))))))))))))))))))))))))))))))))))))))
theorem lp_X7_rep10b {Γ : Gam} {P : Int32 → Mem → Prop} {g : Mem} {m : Nat} {z : Int32} (hm : m < 2 ^ 31) (hP : P (nI m) g) : AW Γ 11 iX7_smallestRepair P 10 [some (.inr 26), some (.inl (nI m)), some (.inl z)] [] g :=
  sg_X7_smallestRepair_10 _ _ ⟨fun _ => hP, fun _ => ⟨fun _ => hP, fun c => absurd c (nI_ne_neg hm (by decide))⟩⟩
theorem lp_X7_rep29b {Γ : Gam} {P : Int32 → Mem → Prop} {g : Mem} {m : Nat} {z k : Int32} (hm : m < 2 ^ 31) (hP : P (nI m) g) : AW Γ 11 iX7_smallestRepair P 29 [some (.inr 26), some (.inl (nI m)), some (.inl z), some (.inl k)] [] g :=
  sg_X7_smallestRepair_29 _ _ _ ⟨fun _ => lp_X7_rep10b hm hP, fun _ => ⟨fun _ => lp_X7_rep10b hm hP, fun c => absurd c (nI_ne_neg hm (by decide))⟩⟩
theorem lp_X7_rep29 {Γ : Gam} {P : Int32 → Mem → Prop} {s : St} {g : Mem} {z : Nat} (h : MW 27 s g) (hz : z ≤ s 41) (hB : ∀ g' m, frA g g' → Best s m → P (nI m) g') (hP : ∀ g', frA g g' → (∀ m', m' < 2 ^ s 41 → rp s m' → z + 1 ≤ pop m' 10) → AW Γ 11 iX7_smallestRepair P 10 [some (.inr 26), some (.inl (-9)), some (.inl (nI (z + 1)))] [] g') : ∀ n k g', k + n = 2 ^ s 41 → frA g g' → (∀ m', m' < 2 ^ s 41 → rp s m' → z < pop m' 10 ∨ (z = pop m' 10 ∧ k ≤ m')) → AW Γ 11 iX7_smallestRepair P 29 [some (.inr 26), some (.inl (-9)), some (.inl (nI z)), some (.inl (nI k))] [] g' := by
  intro n
  have hr := h.2.nr
  have hq := h.2.nq
  have h2 : 2 ^ s 41 ≤ 1024 := Nat.pow_le_pow_right (n := 2) (by decide) hr
  induction n with
  | zero =>
    intro k g' hk hf hI
    have h1 := h.frA hf
    refine sg_X7_smallestRepair_29 _ _ _ ?_
    rw [h1.at (show 41 < 81 by decide), bit_nI (by omega), nI_1]
    refine ⟨fun _ => hP g' hf (fun m' a b => ?_), fun c => absurd (nI_le (by omega) (by omega)) c⟩
    have := hI m' a b
    omega
  | succ n ih =>
    intro k g' hk hf hI
    have h1 := h.frA hf
    have hp := (pop_le (m := k) (n := s 41) (by omega) 10).2
    refine sg_X7_smallestRepair_29 _ _ _ ?_
    rw [h1.at (show 41 < 81 by decide), bit_nI (by omega)]
    refine ⟨fun c => absurd c (nI_ge (by omega) (by omega)), fun _ => ⟨fun c => absurd rfl c, fun _ => Runs.fn (ct_X7_bitCount (by omega)) ?_⟩⟩
    rw [nI_eq (a := pop k 10) (b := z) (by omega) (by omega), nI_1]
    refine ⟨fun c => ih (k + 1) g' (by omega) hf (fun m' a b => ?_), fun c => ?_⟩
    · have := hI m' a b
      by_cases e : m' = k
      · subst e; omega
      · omega
    · refine (ct_X7_analyse h1 (rem := k) (by omega)).mono (fun _ g2 q => Runs.fn (ct_X7_violations (h1.frA q.1) q.2) ?_)
      have hv := vio_le s (fnd s k) (s 62)
      rw [show (0 : Int32) = nI 0 from rfl, nI_eq (a := vio s (fnd s k) (s 62)) (b := 0) (by omega) (by decide)]
      refine ⟨fun c2 => ih (k + 1) g2 (by omega) (hf.trans q.1) (fun m' a b => ?_), fun c2 => ?_⟩
      · have := hI m' a b
        by_cases e : m' = k
        · subst e; exact absurd b c2
        · omega
      · exact lp_X7_rep29b (by omega) (hB g2 k (hf.trans q.1) ⟨by omega, c2, fun m' a b => by have := hI m' a b; omega⟩)
theorem lp_X7_rep10 {Γ : Gam} {P : Int32 → Mem → Prop} {s : St} {g : Mem} (h : MW 27 s g) (hB : ∀ g' m, frA g g' → Best s m → P (nI m) g') : ∀ n z g', z + n = s 41 + 1 → frA g g' → (∀ m', m' < 2 ^ s 41 → rp s m' → z ≤ pop m' 10) → AW Γ 11 iX7_smallestRepair P 10 [some (.inr 26), some (.inl (-9)), some (.inl (nI z))] [] g' := by
  intro n
  have hr := h.2.nr
  have h0 : 0 < 2 ^ s 41 := Nat.pow_pos (by decide)
  induction n with
  | zero =>
    intro z g' hz hf hI
    have a := hI _ (show 2 ^ s 41 - 1 < 2 ^ s 41 by omega) (rp_all s)
    have b := (pop_le (show 2 ^ s 41 - 1 < 2 ^ s 41 by omega) 10).1
    omega
  | succ n ih =>
    intro z g' hz hf hI
    have h1 := h.frA hf
    refine sg_X7_smallestRepair_10 _ _ ?_
    rw [h1.at (show 41 < 81 by decide)]
    refine ⟨fun c => ?_, fun _ => ⟨fun c => absurd rfl c, fun _ => ?_⟩⟩
    · rw [nI_ltI (by omega) (by omega)] at c; omega
    · exact lp_X7_rep29 h (by omega) hB (fun g2 f2 i2 => ih (z + 1) g2 (by omega) f2 i2) (2 ^ s 41) 0 g' (by omega) hf (fun m' a b => by have := hI m' a b; omega)
theorem om_rep {Γ : Gam} {a : Ab} {g : Mem} (h : MI a g) (hw : WA a) : Runs Γ 11 yX7_smallestRepair iX7_smallestRepair [.inr 26] g (OpM (nI (bst a.1), a) g) := by
  refine Runs.intro (by decide) rfl (Nat.le_of_ble_eq_true rfl) (sg_X7_smallestRepair_0 ?_)
  exact lp_X7_rep10 (h.thr.s hw) (fun g' m f b => by rw [bst_eq b]; exact OpM.an h f) (a.1 41 + 1) 0 _ (by omega) ⟨fun _ _ _ => rfl, fun _ _ => rfl⟩ (fun _ _ _ => Nat.zero_le _)
