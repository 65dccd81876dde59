/-! The reference's small methods, and what is left of the class's. -/
theorem n1 (j : Nat) : 1 + nI j = nI (1 + j) := nI_add 1 j
theorem n11 (j : Nat) : 11 + nI j = nI (11 + j) := nI_add 11 j
theorem n21 (j : Nat) : 21 + nI j = nI (21 + j) := nI_add 21 j
theorem n31 (j : Nat) : 31 + nI j = nI (31 + j) := nI_add 31 j
theorem n71 (j : Nat) : 71 + nI j = nI (71 + j) := nI_add 71 j
theorem n42 (j : Nat) : 42 + 2 * nI j = nI (42 + 2 * j) := by rw [show (2 : Int32) = nI 2 from rfl, pk_mul]; exact nI_add 42 _
theorem n63 (j : Nat) : 63 + 2 * nI j = nI (63 + 2 * j) := by rw [show (2 : Int32) = nI 2 from rfl, pk_mul]; exact nI_add 63 _
theorem MW.at {q : Nat} {s : St} {g : Mem} (h : MW q s g) {j : Nat} (hj : j < 81) : g q j = nI (s j) := h.1 j hj
theorem fI_none {x : Int32} {p : Nat → Bool} {N : Nat} (h : ff p 0 N = N) : fI x p N = x := by rw [fI, h, if_neg (Nat.lt_irrefl _)]
theorem fI_at {x : Int32} {p : Nat → Bool} {N i : Nat} (h : ff p 0 N = i) (hi : i < N) : fI x p N = nI i := by rw [fI, h, if_pos hi]
def inI (v a b : Int32) : Bool := decide (a ≤ v) && decide (v ≤ b)
theorem not_lt32 {a b : Int32} : ¬ a < b ↔ b ≤ a := by rw [lt_iff32, le_iff32]; omega
theorem not_le32 {a b : Int32} : ¬ a ≤ b ↔ b < a := by rw [lt_iff32, le_iff32]; omega
theorem sg_X7_in_0 {Γ : Gam} {P : Int32 → Mem → Prop}  (a0 a1 a2 : Int32) {g : Mem} (h : ((a0 < a1 → P 0 g) ∧ (¬ (a0 < a1) → ((a2 < a0 → P 0 g) ∧ (¬ (a2 < a0) → P 1 g))))) : AW Γ 1 iX7_in P 0 [some (.inl a0), some (.inl a1), some (.inl a2)] [] g :=
  (aw_iload_n dX7_in_0 rfl (aw_iload_n dX7_in_1 rfl (aw_icmp_lt 14 dX7_in_2 (by decide) (fun c1 => (aw_iconst 0 dX7_in_14 (by decide) (aw_iret rfl (by decide) dX7_in_15 (h.1 c1)))) (fun c1 => (aw_iload_n dX7_in_5 rfl (aw_iload_n dX7_in_6 rfl (aw_icmp_gt 14 dX7_in_7 (by decide) (fun c2 => (aw_iconst 0 dX7_in_14 (by decide) (aw_iret rfl (by decide) dX7_in_15 ((h.2 c1).1 c2)))) (fun c2 => (aw_iconst 1 dX7_in_10 (by decide) (aw_goto 15 dX7_in_11 (by decide) (aw_iret rfl (by decide) dX7_in_15 ((h.2 c1).2 c2))))))))))))
theorem ct_X7_in {Γ : Gam} {v a b : Int32} {g : Mem} : Runs Γ 1 yX7_in iX7_in [.inl v, .inl a, .inl b] g (fun r g' => r = bi (inI v a b) ∧ g' = g) := by
  refine Runs.intro (by decide) rfl (Nat.le_of_ble_eq_true rfl) (sg_X7_in_0 v a b ⟨fun c => ?_, fun c => ⟨fun c2 => ?_, fun c2 => ?_⟩⟩)
  · rw [← not_le32] at c; simp [inI, c, bi]
  · rw [← not_le32] at c2; simp [inI, c2, bi]
  · rw [not_lt32] at c c2; simp [inI, c, c2, bi]
theorem inI_n {n : Nat} (hn : n ≤ 10) (x : Int32) : inI x 0 (nI n - 1) = inR n x := by
  have e : (nI n - 1).toInt = (n : Int) - 1 := pk_sub_toInt (a := n) (b := 1) (by omega) (by decide)
  rw [Bool.eq_iff_iff]
  simp only [inI, Bool.and_eq_true, decide_eq_true_eq, inR]
  rw [le_iff32, le_iff32, e, show (0 : Int32).toInt = 0 from rfl]
  constructor
  · intro ⟨h1, h2⟩
    have := ix_toInt x h1
    omega
  · intro ⟨h1, h2⟩
    have := ix_toInt x h1
    omega
theorem and1 (x : Int32) : x &&& 1 = 0 ∨ x &&& 1 = 1 := by
  obtain ⟨j, hj, e⟩ := pk_andE x (m := 1) 1 rfl
  rw [e]
  rcases (show j = 0 ∨ j = 1 by omega) with rfl | rfl
  · exact Or.inl rfl
  · exact Or.inr rfl
theorem sg_X7_has_0 {Γ : Gam} {P : Int32 → Mem → Prop}  (a0 a1 : Int32) {g : Mem} (h : ((¬ ((a0 >>> (a1 &&& 31)) &&& 1) = 1 → P 0 g) ∧ (((a0 >>> (a1 &&& 31)) &&& 1) = 1 → P 1 g))) : AW Γ 1 iX7_has P 0 [some (.inl a0), some (.inl a1)] [] g :=
  (aw_iload_n dX7_has_0 rfl (aw_iload_n dX7_has_1 rfl (aw_ishr dX7_has_2 (aw_iconst 1 dX7_has_3 (by decide) (aw_iand dX7_has_4 (aw_iconst 1 dX7_has_5 (by decide) (aw_icmp_ne 13 dX7_has_6 (by decide) (fun c1 => (aw_iconst 0 dX7_has_13 (by decide) (aw_iret rfl (by decide) dX7_has_14 (h.1 c1)))) (fun c1 => (aw_iconst 1 dX7_has_9 (by decide) (aw_goto 14 dX7_has_10 (by decide) (aw_iret rfl (by decide) dX7_has_14 (h.2 c1))))))))))))
theorem ct_X7_has {Γ : Gam} {a b : Int32} {g : Mem} : Runs Γ 1 yX7_has iX7_has [.inl a, .inl b] g (fun r g' => r = bi (hasB a b) ∧ g' = g) := by
  refine Runs.intro (by decide) rfl (Nat.le_of_ble_eq_true rfl) (sg_X7_has_0 a b ⟨fun c => ?_, fun c => ?_⟩)
  · have h := (and1 (a >>> (b &&& 31))).resolve_right c
    simp [hasB, h, bi]
  · simp [hasB, c, bi]
theorem sg_X7_isObject_0 {Γ : Gam} {P : Int32 → Mem → Prop}  (a1 : Int32) {g : Mem} (h : (bz (bi (inI a1 0 ((g 27 0) - 1))) ∧ P (bi (inI a1 0 ((g 27 0) - 1))) g)) : AW Γ 2 iX7_isObject P 0 [some (.inr 26), some (.inl a1)] [] g :=
  (aw_iload_n dX7_isObject_0 rfl (aw_iconst 0 dX7_isObject_1 (by decide) (aw_aload_n dX7_isObject_2 rfl (aw_getr 27 fkX7_7 fa_26_1 dX7_isObject_3 (aw_iconst 0 dX7_isObject_6 (by decide) (aw_iald aa_27 dX7_isObject_7 (vp_lit 0 (by decide) (by decide)) (aw_iconst 1 dX7_isObject_8 (by decide) (aw_isub dX7_isObject_9 (aw_callSi lkX7_56 ckX7_in (d := 1) (by decide) [.inl a1, .inl 0, .inl ((g 27 0) - 1)] rfl rfl (Nat.le_of_ble_eq_true rfl) dX7_isObject_10 rfl (Runs.fn ct_X7_in (aw_iret rfl h.1 dX7_isObject_13 h.2)))))))))))
theorem ct_X7_isObject {Γ : Gam} {s : St} {g : Mem} {x : Int32} (h : MW 27 s g) : Runs Γ 2 yX7_isObject iX7_isObject [.inr 26, .inl x] g (fun r g' => r = bi (inR (s 0) x) ∧ g' = g) := by
  refine Runs.intro (by decide) rfl (Nat.le_of_ble_eq_true rfl) (sg_X7_isObject_0 x ⟨bz_bi _, ?_, rfl⟩)
  rw [h.at (by decide), inI_n h.2.n]
theorem sg_X7_areObjects_0 {Γ : Gam} {P : Int32 → Mem → Prop}  (s : St) (a1 a2 : Int32) {g : Mem} (h : (MW 27 s g ∧ (((bi (inR (s 0) a1)) = 0 → P 0 g) ∧ (¬ (bi (inR (s 0) a1)) = 0 → (MW 27 s g ∧ (((bi (inR (s 0) a2)) = 0 → P 0 g) ∧ (¬ (bi (inR (s 0) a2)) = 0 → P 1 g))))))) : AW Γ 3 iX7_areObjects P 0 [some (.inr 26), some (.inl a1), some (.inl a2)] [] g :=
  (aw_aload_n dX7_areObjects_0 rfl (aw_iload_n dX7_areObjects_1 rfl (aw_callVi lkX7_108 ckX7_isObject ca_26 rfl (d := 2) (by decide) [.inl a1] rfl rfl (Nat.le_of_ble_eq_true rfl) dX7_areObjects_2 rfl (Runs.fn (ct_X7_isObject h.1) (aw_if_eq 20 dX7_areObjects_5 (by decide) (fun c1 => (aw_iconst 0 dX7_areObjects_20 (by decide) (aw_iret rfl (by decide) dX7_areObjects_21 (h.2.1 c1)))) (fun c1 => (aw_aload_n dX7_areObjects_8 rfl (aw_iload_n dX7_areObjects_9 rfl (aw_callVi lkX7_108 ckX7_isObject ca_26 rfl (d := 2) (by decide) [.inl a2] rfl rfl (Nat.le_of_ble_eq_true rfl) dX7_areObjects_10 rfl (Runs.fn (ct_X7_isObject (h.2.2 c1).1) (aw_if_eq 20 dX7_areObjects_13 (by decide) (fun c2 => (aw_iconst 0 dX7_areObjects_20 (by decide) (aw_iret rfl (by decide) dX7_areObjects_21 ((h.2.2 c1).2.1 c2)))) (fun c2 => (aw_iconst 1 dX7_areObjects_16 (by decide) (aw_goto 21 dX7_areObjects_17 (by decide) (aw_iret rfl (by decide) dX7_areObjects_21 ((h.2.2 c1).2.2 c2))))))))))))))))
theorem ct_X7_areObjects {Γ : Gam} {s : St} {g : Mem} {x y : Int32} (h : MW 27 s g) : Runs Γ 3 yX7_areObjects iX7_areObjects [.inr 26, .inl x, .inl y] g (fun r g' => r = bi (inR (s 0) x && inR (s 0) y) ∧ g' = g) := by
  refine Runs.intro (by decide) rfl (Nat.le_of_ble_eq_true rfl) (sg_X7_areObjects_0 s x y ⟨h, fun c => ?_, fun c => ⟨h, fun c2 => ?_, fun c2 => ?_⟩⟩)
  · rw [bi_eq0] at c; simp [c, bi]
  · rw [bi_ne0] at c; rw [bi_eq0] at c2; simp [c, c2, bi]
  · rw [bi_ne0] at c c2; simp [c, c2, bi]
/-- a place of the row behind an object's number -/
theorem MW.ix {q : Nat} {s : St} {g : Mem} (h : MW q s g) {x : Int32} (hx : inR (s 0) x = true) (k : Nat) (hk : k ≤ 71) : vp_in (nI k + x) 81 ∧ g q (nI k + x).toNatClampNeg = nI (s (k + x.toNatClampNeg)) := by
  obtain ⟨h1, h2⟩ := inR_ex hx
  have hn := h.2.n
  have e : nI k + x = nI (k + x.toNatClampNeg) := by
    conv => lhs; rw [h2]
    exact nI_add _ _
  rw [e, ix_nI (by omega), h.at (by omega)]
  exact ⟨vp_nI (by omega) (by omega), rfl⟩
theorem sg_X7_isOf_0 {Γ : Gam} {P : Int32 → Mem → Prop}  (s : St) (a1 a2 : Int32) {g : Mem} (h : (MW 27 s g ∧ (((bi (inR (s 0) a1)) = 0 → P 0 g) ∧ (¬ (bi (inR (s 0) a1)) = 0 → (vp_in (1 + a1) 81 ∧ ((¬ (g 27 (1 + a1).toNatClampNeg) = a2 → P 0 g) ∧ ((g 27 (1 + a1).toNatClampNeg) = a2 → P 1 g))))))) : AW Γ 3 iX7_isOf P 0 [some (.inr 26), some (.inl a1), some (.inl a2)] [] g :=
  (aw_aload_n dX7_isOf_0 rfl (aw_iload_n dX7_isOf_1 rfl (aw_callVi lkX7_108 ckX7_isObject ca_26 rfl (d := 2) (by decide) [.inl a1] rfl rfl (Nat.le_of_ble_eq_true rfl) dX7_isOf_2 rfl (Runs.fn (ct_X7_isObject h.1) (aw_if_eq 24 dX7_isOf_5 (by decide) (fun c1 => (aw_iconst 0 dX7_isOf_24 (by decide) (aw_iret rfl (by decide) dX7_isOf_25 (h.2.1 c1)))) (fun c1 => (aw_aload_n dX7_isOf_8 rfl (aw_getr 27 fkX7_7 fa_26_1 dX7_isOf_9 (aw_iconst 1 dX7_isOf_12 (by decide) (aw_iload_n dX7_isOf_13 rfl (aw_iadd dX7_isOf_14 (aw_iald aa_27 dX7_isOf_15 (h.2.2 c1).1 (aw_iload_n dX7_isOf_16 rfl (aw_icmp_ne 24 dX7_isOf_17 (by decide) (fun c2 => (aw_iconst 0 dX7_isOf_24 (by decide) (aw_iret rfl (by decide) dX7_isOf_25 ((h.2.2 c1).2.1 c2)))) (fun c2 => (aw_iconst 1 dX7_isOf_20 (by decide) (aw_goto 25 dX7_isOf_21 (by decide) (aw_iret rfl (by decide) dX7_isOf_25 ((h.2.2 c1).2.2 c2)))))))))))))))))))
theorem ct_X7_isOf {Γ : Gam} {s : St} {g : Mem} {x k : Int32} (h : MW 27 s g) : Runs Γ 3 yX7_isOf iX7_isOf [.inr 26, .inl x, .inl k] g (fun r g' => r = bi (isK s x k) ∧ g' = g) := by
  refine Runs.intro (by decide) rfl (Nat.le_of_ble_eq_true rfl) (sg_X7_isOf_0 s x k ⟨h, fun c => ?_, fun c => ?_⟩)
  · rw [bi_eq0] at c; simp [isK, c, bi]
  · rw [bi_ne0] at c
    obtain ⟨h1, h2⟩ := h.ix c 1 (by decide)
    refine ⟨h1, ?_⟩
    rw [show (1 : Int32) + x = nI 1 + x from rfl, h2]
    exact ⟨fun c2 => by simp [isK, c, c2, bi], fun c2 => by simp [isK, c, c2, bi]⟩
theorem sg_X7_does_0 {Γ : Gam} {P : Int32 → Mem → Prop}  (s : St) (a1 a2 : Int32) {g : Mem} (h : (MW 27 s g ∧ (((bi (isK s a1 0)) = 0 → P 0 g) ∧ (¬ (bi (isK s a1 0)) = 0 → (vp_in (11 + a1) 81 ∧ ((((g 27 (11 + a1).toNatClampNeg) &&& a2) = 0 → P 0 g) ∧ (¬ ((g 27 (11 + a1).toNatClampNeg) &&& a2) = 0 → P 1 g))))))) : AW Γ 4 iX7_does P 0 [some (.inr 26), some (.inl a1), some (.inl a2)] [] g :=
  (aw_aload_n dX7_does_0 rfl (aw_iload_n dX7_does_1 rfl (aw_iconst 0 dX7_does_2 (by decide) (aw_callVi lkX7_112 ckX7_isOf ca_26 rfl (d := 3) (by decide) [.inl a1, .inl 0] rfl rfl (Nat.le_of_ble_eq_true rfl) dX7_does_3 rfl (Runs.fn (ct_X7_isOf h.1) (aw_if_eq 27 dX7_does_6 (by decide) (fun c1 => (aw_iconst 0 dX7_does_27 (by decide) (aw_iret rfl (by decide) dX7_does_28 (h.2.1 c1)))) (fun c1 => (aw_aload_n dX7_does_9 rfl (aw_getr 27 fkX7_7 fa_26_1 dX7_does_10 (aw_bipush 11 dX7_does_13 (by decide) (aw_iload_n dX7_does_15 rfl (aw_iadd dX7_does_16 (aw_iald aa_27 dX7_does_17 (h.2.2 c1).1 (aw_iload_n dX7_does_18 rfl (aw_iand dX7_does_19 (aw_if_eq 27 dX7_does_20 (by decide) (fun c2 => (aw_iconst 0 dX7_does_27 (by decide) (aw_iret rfl (by decide) dX7_does_28 ((h.2.2 c1).2.1 c2)))) (fun c2 => (aw_iconst 1 dX7_does_23 (by decide) (aw_goto 28 dX7_does_24 (by decide) (aw_iret rfl (by decide) dX7_does_28 ((h.2.2 c1).2.2 c2)))))))))))))))))))))
theorem ct_X7_does {Γ : Gam} {s : St} {g : Mem} {x f : Int32} (h : MW 27 s g) : Runs Γ 4 yX7_does iX7_does [.inr 26, .inl x, .inl f] g (fun r g' => r = bi (isW s x f) ∧ g' = g) := by
  refine Runs.intro (by decide) rfl (Nat.le_of_ble_eq_true rfl) (sg_X7_does_0 s x f ⟨h, fun c => ?_, fun c => ?_⟩)
  · rw [bi_eq0] at c; simp [isW, c, bi]
  · rw [bi_ne0] at c
    obtain ⟨h1, h2⟩ := h.ix (isK_in c).1 11 (by decide)
    refine ⟨h1, ?_⟩
    rw [show (11 : Int32) + x = nI 11 + x from rfl, h2]
    exact ⟨fun c2 => by simp [isW, c, c2, bi], fun c2 => by simp [isW, c, c2, bi]⟩
theorem sg_X7_isHolder_0 {Γ : Gam} {P : Int32 → Mem → Prop} (q : Nat) (hq : aAt q = some (0, 81)) (a1 : Int32) {g : Mem} (h : (((bi (inI a1 0 ((g q 0) - 1))) = 0 → P 0 g) ∧ (¬ (bi (inI a1 0 ((g q 0) - 1))) = 0 → (vp_in (1 + a1) 81 ∧ (((g q (1 + a1).toNatClampNeg) = 0 → P 1 g) ∧ (¬ (g q (1 + a1).toNatClampNeg) = 0 → (vp_in (1 + a1) 81 ∧ ((¬ (g q (1 + a1).toNatClampNeg) = 3 → P 0 g) ∧ ((g q (1 + a1).toNatClampNeg) = 3 → P 1 g))))))))) : AW Γ 2 iX7_isHolder P 0 [some (.inr q), some (.inl a1)] [] g :=
  (aw_iload_n dX7_isHolder_0 rfl (aw_iconst 0 dX7_isHolder_1 (by decide) (aw_aload_n dX7_isHolder_2 rfl (aw_iconst 0 dX7_isHolder_3 (by decide) (aw_iald hq dX7_isHolder_4 (vp_lit 0 (by decide) (by decide)) (aw_iconst 1 dX7_isHolder_5 (by decide) (aw_isub dX7_isHolder_6 (aw_callSi lkX7_56 ckX7_in (d := 1) (by decide) [.inl a1, .inl 0, .inl ((g q 0) - 1)] rfl rfl (Nat.le_of_ble_eq_true rfl) dX7_isHolder_7 rfl (Runs.fn ct_X7_in (aw_if_eq 34 dX7_isHolder_10 (by decide) (fun c1 => (aw_iconst 0 dX7_isHolder_34 (by decide) (aw_iret rfl (by decide) dX7_isHolder_35 (h.1 c1)))) (fun c1 => (aw_aload_n dX7_isHolder_13 rfl (aw_iconst 1 dX7_isHolder_14 (by decide) (aw_iload_n dX7_isHolder_15 rfl (aw_iadd dX7_isHolder_16 (aw_iald hq dX7_isHolder_17 (h.2 c1).1 (aw_if_eq 30 dX7_isHolder_18 (by decide) (fun c2 => (aw_iconst 1 dX7_isHolder_30 (by decide) (aw_goto 35 dX7_isHolder_31 (by decide) (aw_iret rfl (by decide) dX7_isHolder_35 ((h.2 c1).2.1 c2))))) (fun c2 => (aw_aload_n dX7_isHolder_21 rfl (aw_iconst 1 dX7_isHolder_22 (by decide) (aw_iload_n dX7_isHolder_23 rfl (aw_iadd dX7_isHolder_24 (aw_iald hq dX7_isHolder_25 ((h.2 c1).2.2 c2).1 (aw_iconst 3 dX7_isHolder_26 (by decide) (aw_icmp_ne 34 dX7_isHolder_27 (by decide) (fun c3 => (aw_iconst 0 dX7_isHolder_34 (by decide) (aw_iret rfl (by decide) dX7_isHolder_35 (((h.2 c1).2.2 c2).2.1 c3)))) (fun c3 => (aw_iconst 1 dX7_isHolder_30 (by decide) (aw_goto 35 dX7_isHolder_31 (by decide) (aw_iret rfl (by decide) dX7_isHolder_35 (((h.2 c1).2.2 c2).2.2 c3))))))))))))))))))))))))))))))
theorem ct_X7_isHolder {Γ : Gam} {q : Nat} (hq : aAt q = some (0, 81)) {s : St} {g : Mem} {x : Int32} (h : MW q s g) : Runs Γ 2 yX7_isHolder iX7_isHolder [.inr q, .inl x] g (fun r g' => r = bi (isH s x) ∧ g' = g) := by
  refine Runs.intro (by decide) rfl (Nat.le_of_ble_eq_true rfl) (sg_X7_isHolder_0 q hq x ?_)
  rw [h.at (show 0 < 81 by decide), inI_n h.2.n]
  refine ⟨fun c => ?_, fun c => ?_⟩
  · rw [bi_eq0] at c; simp [isH, isK, c, bi]
  · rw [bi_ne0] at c
    obtain ⟨h1, h2⟩ := h.ix c 1 (by decide)
    refine ⟨h1, ?_⟩
    rw [show (1 : Int32) + x = nI 1 + x from rfl, h2]
    exact ⟨fun c2 => by simp [isH, isK, c, c2, bi], fun c2 => ⟨h1, fun c3 => by simp [isH, isK, c, c2, c3, bi], fun c3 => by simp [isH, isK, c, c2, c3, bi]⟩⟩
def refP (s : St) (h o : Int32) (k : Nat) : Bool := decide (nI (s (42 + 2 * k)) = h) && decide (nI (s (42 + 2 * k + 1)) = o)
def reqP (s : St) (h o : Int32) (k : Nat) : Bool := decide (nI (s (63 + 2 * k)) = h) && decide (nI (s (63 + 2 * k + 1)) = o)
theorem sg_X7_indexOf_0 {Γ : Gam} {P : Int32 → Mem → Prop} (q : Nat) (hq : aAt q = some (0, 81)) (a1 a2 : Int32) {g : Mem} (h : AW Γ 1 iX7_indexOf P 2 [some (.inr q), some (.inl a1), some (.inl a2), some (.inl 0)] [] g) : AW Γ 1 iX7_indexOf P 0 [some (.inr q), some (.inl a1), some (.inl a2)] [] g :=
  (aw_iconst 0 dX7_indexOf_0 (by decide) (aw_istore_n [some (.inr q), some (.inl a1), some (.inl a2), some (.inl 0)] dX7_indexOf_1 (by decide) rfl (aw_mask [true, true, true, true] rfl h)))
theorem sg_X7_indexOf_2 {Γ : Gam} {P : Int32 → Mem → Prop} (q : Nat) (hq : aAt q = some (0, 81)) (a1 a2 a3 : Int32) {g : Mem} (h : (((g q 41) ≤ a3 → P (-9) g) ∧ (¬ ((g q 41) ≤ a3) → (vp_in (42 + (2 * a3)) 81 ∧ ((¬ (g q (42 + (2 * a3)).toNatClampNeg) = a1 → AW Γ 1 iX7_indexOf P 2 [some (.inr q), some (.inl a1), some (.inl a2), some (.inl (a3 + 1))] [] g) ∧ ((g q (42 + (2 * a3)).toNatClampNeg) = a1 → (vp_in ((42 + (2 * a3)) + 1) 81 ∧ ((¬ (g q ((42 + (2 * a3)) + 1).toNatClampNeg) = a2 → AW Γ 1 iX7_indexOf P 2 [some (.inr q), some (.inl a1), some (.inl a2), some (.inl (a3 + 1))] [] g) ∧ ((g q ((42 + (2 * a3)) + 1).toNatClampNeg) = a2 → P a3 g))))))))) : AW Γ 1 iX7_indexOf P 2 [some (.inr q), some (.inl a1), some (.inl a2), some (.inl a3)] [] g :=
  (aw_iload_n dX7_indexOf_2 rfl (aw_aload_n dX7_indexOf_3 rfl (aw_bipush 41 dX7_indexOf_4 (by decide) (aw_iald hq dX7_indexOf_6 (vp_lit 41 (by decide) (by decide)) (aw_icmp_ge 44 dX7_indexOf_7 (by decide) (fun c1 => (aw_bipush (-9) dX7_indexOf_44 (by decide) (aw_iret rfl (vp_nar_int _) dX7_indexOf_46 (h.1 c1)))) (fun c1 => (aw_aload_n dX7_indexOf_10 rfl (aw_bipush 42 dX7_indexOf_11 (by decide) (aw_iconst 2 dX7_indexOf_13 (by decide) (aw_iload_n dX7_indexOf_14 rfl (aw_imul dX7_indexOf_15 (aw_iadd dX7_indexOf_16 (aw_iald hq dX7_indexOf_17 (h.2 c1).1 (aw_iload_n dX7_indexOf_18 rfl (aw_icmp_ne 38 dX7_indexOf_19 (by decide) (fun c2 => (aw_iinc (a3 + 1) [some (.inr q), some (.inl a1), some (.inl a2), some (.inl (a3 + 1))] dX7_indexOf_38 rfl (by rfl) (by decide) rfl (aw_goto 2 dX7_indexOf_41 (by decide) (aw_mask [true, true, true, true] rfl ((h.2 c1).2.1 c2))))) (fun c2 => (aw_aload_n dX7_indexOf_22 rfl (aw_bipush 42 dX7_indexOf_23 (by decide) (aw_iconst 2 dX7_indexOf_25 (by decide) (aw_iload_n dX7_indexOf_26 rfl (aw_imul dX7_indexOf_27 (aw_iadd dX7_indexOf_28 (aw_iconst 1 dX7_indexOf_29 (by decide) (aw_iadd dX7_indexOf_30 (aw_iald hq dX7_indexOf_31 ((h.2 c1).2.2 c2).1 (aw_iload_n dX7_indexOf_32 rfl (aw_icmp_ne 38 dX7_indexOf_33 (by decide) (fun c3 => (aw_iinc (a3 + 1) [some (.inr q), some (.inl a1), some (.inl a2), some (.inl (a3 + 1))] dX7_indexOf_38 rfl (by rfl) (by decide) rfl (aw_goto 2 dX7_indexOf_41 (by decide) (aw_mask [true, true, true, true] rfl (((h.2 c1).2.2 c2).2.1 c3))))) (fun c3 => (aw_iload_n dX7_indexOf_36 rfl (aw_iret rfl (vp_nar_int _) dX7_indexOf_37 (((h.2 c1).2.2 c2).2.2 c3)))))))))))))))))))))))))))))))
theorem lp_X7_indexOf {Γ : Gam} {P : Int32 → Mem → Prop} {q : Nat} (hq : aAt q = some (0, 81)) {s : St} {g : Mem} {x y : Int32} (h : MW q s g) (hP : P (fI (-9) (refP s x y) (s 41)) g) : ∀ n i, i + n = s 41 → ff (refP s x y) 0 (s 41) = ff (refP s x y) i n → AW Γ 1 iX7_indexOf P 2 [some (.inr q), some (.inl x), some (.inl y), some (.inl (nI i))] [] g := by
  intro n
  have hr := h.2.nr
  induction n with
  | zero =>
    intro i hi hf
    refine sg_X7_indexOf_2 q hq x y (nI i) ?_
    rw [h.at (show 41 < 81 by decide)]
    refine ⟨fun _ => ?_, fun c => absurd (nI_le (by omega) (by omega)) c⟩
    rw [fI_none (by rw [hf, ff]; omega)] at hP
    exact hP
  | succ n ih =>
    intro i hi hf
    refine sg_X7_indexOf_2 q hq x y (nI i) ?_
    rw [h.at (show 41 < 81 by decide), n42, nI_1, nI_1, ix_nI (by omega), ix_nI (by omega), h.at (show 42 + 2 * i < 81 by omega), h.at (show 42 + 2 * i + 1 < 81 by omega)]
    refine ⟨fun c => absurd c (nI_ge (by omega) (by omega)), fun _ => ⟨vp_nI (by omega) (by omega), fun c => ?_, fun c => ⟨vp_nI (by omega) (by omega), fun c2 => ?_, fun c2 => ?_⟩⟩⟩
    · exact ih (i + 1) (by omega) (by rw [hf, ff_F (by simp [refP, c])])
    · exact ih (i + 1) (by omega) (by rw [hf, ff_F (by simp [refP, c2])])
    · rw [fI_at (i := i) (by rw [hf, ff_T (by simp [refP, c, c2])]) (by omega)] at hP
      exact hP
theorem ct_X7_indexOf {Γ : Gam} {q : Nat} (hq : aAt q = some (0, 81)) {s : St} {g : Mem} {x y : Int32} (h : MW q s g) : Runs Γ 1 yX7_indexOf iX7_indexOf [.inr q, .inl x, .inl y] g (fun r g' => r = fI (-9) (refP s x y) (s 41) ∧ g' = g) :=
  Runs.intro (by decide) rfl (Nat.le_of_ble_eq_true rfl) (sg_X7_indexOf_0 q hq x y (lp_X7_indexOf hq h ⟨rfl, rfl⟩ (s 41) 0 (by omega) rfl))
theorem sg_X7_requirementOf_0 {Γ : Gam} {P : Int32 → Mem → Prop}  (a1 a2 : Int32) {g : Mem} (h : AW Γ 1 iX7_requirementOf P 2 [some (.inr 26), some (.inl a1), some (.inl a2), some (.inl 0)] [] g) : AW Γ 1 iX7_requirementOf P 0 [some (.inr 26), some (.inl a1), some (.inl a2)] [] g :=
  (aw_iconst 0 dX7_requirementOf_0 (by decide) (aw_istore_n [some (.inr 26), some (.inl a1), some (.inl a2), some (.inl 0)] dX7_requirementOf_1 (by decide) rfl (aw_mask [true, true, true, true] rfl h)))
theorem sg_X7_requirementOf_2 {Γ : Gam} {P : Int32 → Mem → Prop}  (a1 a2 a3 : Int32) {g : Mem} (h : (((g 27 62) ≤ a3 → P (-9) g) ∧ (¬ ((g 27 62) ≤ a3) → (vp_in (63 + (2 * a3)) 81 ∧ ((¬ (g 27 (63 + (2 * a3)).toNatClampNeg) = a1 → AW Γ 1 iX7_requirementOf P 2 [some (.inr 26), some (.inl a1), some (.inl a2), some (.inl (a3 + 1))] [] g) ∧ ((g 27 (63 + (2 * a3)).toNatClampNeg) = a1 → (vp_in ((63 + (2 * a3)) + 1) 81 ∧ ((¬ (g 27 ((63 + (2 * a3)) + 1).toNatClampNeg) = a2 → AW Γ 1 iX7_requirementOf P 2 [some (.inr 26), some (.inl a1), some (.inl a2), some (.inl (a3 + 1))] [] g) ∧ ((g 27 ((63 + (2 * a3)) + 1).toNatClampNeg) = a2 → P a3 g))))))))) : AW Γ 1 iX7_requirementOf P 2 [some (.inr 26), some (.inl a1), some (.inl a2), some (.inl a3)] [] g :=
  (aw_iload_n dX7_requirementOf_2 rfl (aw_aload_n dX7_requirementOf_3 rfl (aw_getr 27 fkX7_7 fa_26_1 dX7_requirementOf_4 (aw_bipush 62 dX7_requirementOf_7 (by decide) (aw_iald aa_27 dX7_requirementOf_9 (vp_lit 62 (by decide) (by decide)) (aw_icmp_ge 53 dX7_requirementOf_10 (by decide) (fun c1 => (aw_bipush (-9) dX7_requirementOf_53 (by decide) (aw_iret rfl (vp_nar_int _) dX7_requirementOf_55 (h.1 c1)))) (fun c1 => (aw_aload_n dX7_requirementOf_13 rfl (aw_getr 27 fkX7_7 fa_26_1 dX7_requirementOf_14 (aw_bipush 63 dX7_requirementOf_17 (by decide) (aw_iconst 2 dX7_requirementOf_19 (by decide) (aw_iload_n dX7_requirementOf_20 rfl (aw_imul dX7_requirementOf_21 (aw_iadd dX7_requirementOf_22 (aw_iald aa_27 dX7_requirementOf_23 (h.2 c1).1 (aw_iload_n dX7_requirementOf_24 rfl (aw_icmp_ne 47 dX7_requirementOf_25 (by decide) (fun c2 => (aw_iinc (a3 + 1) [some (.inr 26), some (.inl a1), some (.inl a2), some (.inl (a3 + 1))] dX7_requirementOf_47 rfl (by rfl) (by decide) rfl (aw_goto 2 dX7_requirementOf_50 (by decide) (aw_mask [true, true, true, true] rfl ((h.2 c1).2.1 c2))))) (fun c2 => (aw_aload_n dX7_requirementOf_28 rfl (aw_getr 27 fkX7_7 fa_26_1 dX7_requirementOf_29 (aw_bipush 63 dX7_requirementOf_32 (by decide) (aw_iconst 2 dX7_requirementOf_34 (by decide) (aw_iload_n dX7_requirementOf_35 rfl (aw_imul dX7_requirementOf_36 (aw_iadd dX7_requirementOf_37 (aw_iconst 1 dX7_requirementOf_38 (by decide) (aw_iadd dX7_requirementOf_39 (aw_iald aa_27 dX7_requirementOf_40 ((h.2 c1).2.2 c2).1 (aw_iload_n dX7_requirementOf_41 rfl (aw_icmp_ne 47 dX7_requirementOf_42 (by decide) (fun c3 => (aw_iinc (a3 + 1) [some (.inr 26), some (.inl a1), some (.inl a2), some (.inl (a3 + 1))] dX7_requirementOf_47 rfl (by rfl) (by decide) rfl (aw_goto 2 dX7_requirementOf_50 (by decide) (aw_mask [true, true, true, true] rfl (((h.2 c1).2.2 c2).2.1 c3))))) (fun c3 => (aw_iload_n dX7_requirementOf_45 rfl (aw_iret rfl (vp_nar_int _) dX7_requirementOf_46 (((h.2 c1).2.2 c2).2.2 c3))))))))))))))))))))))))))))))))))
theorem lp_X7_requirementOf {Γ : Gam} {P : Int32 → Mem → Prop} {s : St} {g : Mem} {x y : Int32} (h : MW 27 s g) (hP : P (fI (-9) (reqP s x y) (s 62)) g) : ∀ n i, i + n = s 62 → ff (reqP s x y) 0 (s 62) = ff (reqP s x y) i n → AW Γ 1 iX7_requirementOf P 2 [some (.inr 26), some (.inl x), some (.inl y), some (.inl (nI i))] [] g := by
  intro n
  have hr := h.2.nq
  induction n with
  | zero =>
    intro i hi hf
    refine sg_X7_requirementOf_2 x y (nI i) ?_
    rw [h.at (show 62 < 81 by decide)]
    refine ⟨fun _ => ?_, fun c => absurd (nI_le (by omega) (by omega)) c⟩
    rw [fI_none (by rw [hf, ff]; omega)] at hP
    exact hP
  | succ n ih =>
    intro i hi hf
    refine sg_X7_requirementOf_2 x y (nI i) ?_
    rw [h.at (show 62 < 81 by decide), n63, nI_1, nI_1, ix_nI (by omega), ix_nI (by omega), h.at (show 63 + 2 * i < 81 by omega), h.at (show 63 + 2 * i + 1 < 81 by omega)]
    refine ⟨fun c => absurd c (nI_ge (by omega) (by omega)), fun _ => ⟨vp_nI (by omega) (by omega), fun c => ?_, fun c => ⟨vp_nI (by omega) (by omega), fun c2 => ?_, fun c2 => ?_⟩⟩⟩
    · exact ih (i + 1) (by omega) (by rw [hf, ff_F (by simp [reqP, c])])
    · exact ih (i + 1) (by omega) (by rw [hf, ff_F (by simp [reqP, c2])])
    · rw [fI_at (i := i) (by rw [hf, ff_T (by simp [reqP, c, c2])]) (by omega)] at hP
      exact hP
theorem ct_X7_requirementOf {Γ : Gam} {s : St} {g : Mem} {x y : Int32} (h : MW 27 s g) : Runs Γ 1 yX7_requirementOf iX7_requirementOf [.inr 26, .inl x, .inl y] g (fun r g' => r = fI (-9) (reqP s x y) (s 62) ∧ g' = g) :=
  Runs.intro (by decide) rfl (Nat.le_of_ble_eq_true rfl) (sg_X7_requirementOf_0 x y (lp_X7_requirementOf h ⟨rfl, rfl⟩ (s 62) 0 (by omega) rfl))
theorem sg_X7_holds_0 {Γ : Gam} {P : Int32 → Mem → Prop}  (a1 a2 : Int32) {g : Mem} (h : (vp_in (71 + a1) 81 ∧ (bz (bi (hasB (g 27 (71 + a1).toNatClampNeg) a2)) ∧ P (bi (hasB (g 27 (71 + a1).toNatClampNeg) a2)) g))) : AW Γ 2 iX7_holds P 0 [some (.inr 26), some (.inl a1), some (.inl a2)] [] g :=
  (aw_aload_n dX7_holds_0 rfl (aw_getr 27 fkX7_7 fa_26_1 dX7_holds_1 (aw_bipush 71 dX7_holds_4 (by decide) (aw_iload_n dX7_holds_6 rfl (aw_iadd dX7_holds_7 (aw_iald aa_27 dX7_holds_8 h.1 (aw_iload_n dX7_holds_9 rfl (aw_callSi lkX7_151 ckX7_has (d := 1) (by decide) [.inl (g 27 (71 + a1).toNatClampNeg), .inl a2] rfl rfl (Nat.le_of_ble_eq_true rfl) dX7_holds_10 rfl (Runs.fn ct_X7_has (aw_iret rfl h.2.1 dX7_holds_13 h.2.2))))))))))
theorem ct_X7_holds {Γ : Gam} {s : St} {g : Mem} {x y : Int32} (h : MW 27 s g ∧ inR 10 x = true) : Runs Γ 2 yX7_holds iX7_holds [.inr 26, .inl x, .inl y] g (fun r g' => r = bi (hasB (nI (s (71 + x.toNatClampNeg))) y) ∧ g' = g) := by
  obtain ⟨h, hx⟩ := h
  obtain ⟨h1, h2⟩ := inR_ex hx
  have e : 71 + x = nI (71 + x.toNatClampNeg) := by
    conv => lhs; rw [h2]
    exact n71 _
  refine Runs.intro (by decide) rfl (Nat.le_of_ble_eq_true rfl) (sg_X7_holds_0 x y ?_)
  rw [e, ix_nI (by omega), h.at (by omega)]
  exact ⟨vp_nI (by omega) (by omega), bz_bi _, rfl, rfl⟩
theorem and1_nI {r k : Nat} (hr : r < 2 ^ 31) (hk : k < 31) : (nI r >>> (nI k &&& 31)) &&& 1 = nI (if r.testBit k then 1 else 0) := by
  rw [pk_shrN hr (nI k &&& 31) k (sh_l k (by omega)), pk_andN (m := 1) (Nat.lt_of_le_of_lt (Nat.div_le_self _ _) (by omega)) 1 rfl, Nat.testBit_eq_decide_div_mod_eq]
  have h2 : r / 2 ^ k % 2 ^ 1 < 2 := Nat.mod_lt _ (by decide)
  rcases (show r / 2 ^ k % 2 ^ 1 = 0 ∨ r / 2 ^ k % 2 ^ 1 = 1 by omega) with e | e
  · rw [e]; simp [show r / 2 ^ k % 2 = 0 from e]
  · rw [e]; simp [show r / 2 ^ k % 2 = 1 from e]
theorem sg_X7_bitCount_0 {Γ : Gam} {P : Int32 → Mem → Prop}  (a0 : Int32) {g : Mem} (h : AW Γ 1 iX7_bitCount P 4 [some (.inl a0), some (.inl 0), some (.inl 0)] [] g) : AW Γ 1 iX7_bitCount P 0 [some (.inl a0)] [] g :=
  (aw_iconst 0 dX7_bitCount_0 (by decide) (aw_istore_n [some (.inl a0), some (.inl 0)] dX7_bitCount_1 (by decide) rfl (aw_iconst 0 dX7_bitCount_2 (by decide) (aw_istore_n [some (.inl a0), some (.inl 0), some (.inl 0)] dX7_bitCount_3 (by decide) rfl (aw_mask [true, true, true] rfl h)))))
theorem sg_X7_bitCount_4 {Γ : Gam} {P : Int32 → Mem → Prop}  (a0 a1 a2 : Int32) {g : Mem} (h : ((10 ≤ a2 → P a1 g) ∧ (¬ (10 ≤ a2) → AW Γ 1 iX7_bitCount P 4 [some (.inl a0), some (.inl (a1 + ((a0 >>> (a2 &&& 31)) &&& 1))), some (.inl (a2 + 1))] [] g))) : AW Γ 1 iX7_bitCount P 4 [some (.inl a0), some (.inl a1), some (.inl a2)] [] g :=
  (aw_iload_n dX7_bitCount_4 rfl (aw_bipush 10 dX7_bitCount_5 (by decide) (aw_icmp_ge 24 dX7_bitCount_7 (by decide) (fun c1 => (aw_iload_n dX7_bitCount_24 rfl (aw_iret rfl (vp_nar_int _) dX7_bitCount_25 (h.1 c1)))) (fun c1 => (aw_iload_n dX7_bitCount_10 rfl (aw_iload_n dX7_bitCount_11 rfl (aw_iload_n dX7_bitCount_12 rfl (aw_ishr dX7_bitCount_13 (aw_iconst 1 dX7_bitCount_14 (by decide) (aw_iand dX7_bitCount_15 (aw_iadd dX7_bitCount_16 (aw_istore_n [some (.inl a0), some (.inl (a1 + ((a0 >>> (a2 &&& 31)) &&& 1))), some (.inl a2)] dX7_bitCount_17 (by decide) rfl (aw_iinc (a2 + 1) [some (.inl a0), some (.inl (a1 + ((a0 >>> (a2 &&& 31)) &&& 1))), some (.inl (a2 + 1))] dX7_bitCount_18 rfl (by rfl) (by decide) rfl (aw_goto 4 dX7_bitCount_21 (by decide) (aw_mask [true, true, true] rfl (h.2 c1))))))))))))))))
theorem lp_X7_bitCount {Γ : Gam} {P : Int32 → Mem → Prop} {r : Nat} (hr : r < 2 ^ 31) {g : Mem} (hP : P (nI (pop r 10)) g) : ∀ n i, i + n = 10 → AW Γ 1 iX7_bitCount P 4 [some (.inl (nI r)), some (.inl (nI (pop r i))), some (.inl (nI i))] [] g := by
  intro n
  induction n with
  | zero =>
    intro i hi
    have e : i = 10 := by omega
    subst e
    exact sg_X7_bitCount_4 _ _ _ ⟨fun _ => hP, fun c => absurd (nI_le (Nat.le_refl 10) (by decide)) c⟩
  | succ n ih =>
    intro i hi
    refine sg_X7_bitCount_4 _ _ _ ⟨fun c => absurd c (nI_ge (show i < 10 by omega) (by decide)), fun _ => ?_⟩
    rw [and1_nI hr (by omega), nI_add, nI_1]
    exact ih (i + 1) (by omega)
theorem ct_X7_bitCount {Γ : Gam} {r : Nat} (hr : r < 2 ^ 31) {g : Mem} : Runs Γ 1 yX7_bitCount iX7_bitCount [.inl (nI r)] g (fun v g' => v = nI (pop r 10) ∧ g' = g) :=
  Runs.intro (by decide) rfl (Nat.le_of_ble_eq_true rfl) (sg_X7_bitCount_0 (nI r) (lp_X7_bitCount hr ⟨rfl, rfl⟩ 10 0 rfl))
/-! the class's -/
theorem sg_X4_listsReference_0 {Γ : Gam} {P : Int32 → Mem → Prop} (b : Nat) (hb : isSt b) (a1 a2 : Int32) {g : Mem} (h : AW Γ 1 iX4_listsReference P 2 [some (.inr b), some (.inl a1), some (.inl a2), some (.inl 0)] [] g) : AW Γ 1 iX4_listsReference P 0 [some (.inr b), some (.inl a1), some (.inl a2)] [] g :=
  (aw_iconst 0 dX4_listsReference_0 (by decide) (aw_istore_n [some (.inr b), some (.inl a1), some (.inl a2), some (.inl 0)] dX4_listsReference_1 (by decide) rfl (aw_mask [true, true, true, true] rfl h)))
theorem sg_X4_listsReference_2 {Γ : Gam} {P : Int32 → Mem → Prop} (b : Nat) (hb : isSt b) (a1 a2 a3 : Int32) {g : Mem} (h : (((g b 5) ≤ a3 → P 0 g) ∧ (¬ ((g b 5) ≤ a3) → (vp_in a3 10 ∧ ((¬ (g (b + 5) a3.toNatClampNeg) = a1 → AW Γ 1 iX4_listsReference P 2 [some (.inr b), some (.inl a1), some (.inl a2), some (.inl (a3 + 1))] [] g) ∧ ((g (b + 5) a3.toNatClampNeg) = a1 → (vp_in a3 10 ∧ ((¬ (g (b + 6) a3.toNatClampNeg) = a2 → AW Γ 1 iX4_listsReference P 2 [some (.inr b), some (.inl a1), some (.inl a2), some (.inl (a3 + 1))] [] g) ∧ ((g (b + 6) a3.toNatClampNeg) = a2 → P 1 g))))))))) : AW Γ 1 iX4_listsReference P 2 [some (.inr b), some (.inl a1), some (.inl a2), some (.inl a3)] [] g :=
  (aw_iload_n dX4_listsReference_2 rfl (aw_aload_n dX4_listsReference_3 rfl (aw_geti fkX4_28 (fs_5 hb) dX4_listsReference_4 (aw_icmp_ge 38 dX4_listsReference_7 (by decide) (fun c1 => (aw_iconst 0 dX4_listsReference_38 (by decide) (aw_iret rfl (by decide) dX4_listsReference_39 (h.1 c1)))) (fun c1 => (aw_aload_n dX4_listsReference_10 rfl (aw_getr (b + 5) fkX4_31 (fs_6 hb) dX4_listsReference_11 (aw_iload_n dX4_listsReference_14 rfl (aw_iald (as_5 hb) dX4_listsReference_15 (h.2 c1).1 (aw_iload_n dX4_listsReference_16 rfl (aw_icmp_ne 32 dX4_listsReference_17 (by decide) (fun c2 => (aw_iinc (a3 + 1) [some (.inr b), some (.inl a1), some (.inl a2), some (.inl (a3 + 1))] dX4_listsReference_32 rfl (by rfl) (by decide) rfl (aw_goto 2 dX4_listsReference_35 (by decide) (aw_mask [true, true, true, true] rfl ((h.2 c1).2.1 c2))))) (fun c2 => (aw_aload_n dX4_listsReference_20 rfl (aw_getr (b + 6) fkX4_34 (fs_7 hb) dX4_listsReference_21 (aw_iload_n dX4_listsReference_24 rfl (aw_iald (as_6 hb) dX4_listsReference_25 ((h.2 c1).2.2 c2).1 (aw_iload_n dX4_listsReference_26 rfl (aw_icmp_ne 32 dX4_listsReference_27 (by decide) (fun c3 => (aw_iinc (a3 + 1) [some (.inr b), some (.inl a1), some (.inl a2), some (.inl (a3 + 1))] dX4_listsReference_32 rfl (by rfl) (by decide) rfl (aw_goto 2 dX4_listsReference_35 (by decide) (aw_mask [true, true, true, true] rfl (((h.2 c1).2.2 c2).2.1 c3))))) (fun c3 => (aw_iconst 1 dX4_listsReference_30 (by decide) (aw_iret rfl (by decide) dX4_listsReference_31 (((h.2 c1).2.2 c2).2.2 c3))))))))))))))))))))))
theorem lp_X4_listsReference {Γ : Gam} {P : Int32 → Mem → Prop} {b : Nat} (hb : isSt b) {s : St} {g : Mem} {x y : Int32} (h : CW b s g) (hP : P (bi (decide (ff (refP s x y) 0 (s 41) < s 41))) g) : ∀ n i, i + n = s 41 → ff (refP s x y) 0 (s 41) = ff (refP s x y) i n → AW Γ 1 iX4_listsReference P 2 [some (.inr b), some (.inl x), some (.inl y), some (.inl (nI i))] [] g := by
  intro n
  have hr := h.2.nr
  induction n with
  | zero =>
    intro i hi hf
    refine sg_X4_listsReference_2 b hb x y (nI i) ?_
    rw [h.1.2.2.2.2.2.1]
    refine ⟨fun _ => ?_, fun c => absurd (nI_le (by omega) (by omega)) c⟩
    rw [hf, ff, decide_eq_false (by omega)] at hP
    exact hP
  | succ n ih =>
    intro i hi hf
    refine sg_X4_listsReference_2 b hb x y (nI i) ?_
    obtain ⟨e1, e2⟩ := h.1.2.2.2.2.2.2.1 i (by omega)
    rw [h.1.2.2.2.2.2.1, nI_1, ix_nI (by omega), e1, e2]
    refine ⟨fun c => absurd c (nI_ge (by omega) (by omega)), fun _ => ⟨vp_nI (by omega) (by omega), fun c => ?_, fun c => ⟨vp_nI (by omega) (by omega), fun c2 => ?_, fun c2 => ?_⟩⟩⟩
    · exact ih (i + 1) (by omega) (by rw [hf, ff_F (by simp [refP, c])])
    · exact ih (i + 1) (by omega) (by rw [hf, ff_F (by simp [refP, c2])])
    · rw [hf, ff_T (by simp [refP, c, c2]), decide_eq_true (by omega)] at hP
      exact hP
theorem ct_X4_listsReference {Γ : Gam} {b : Nat} (hb : isSt b) {s : St} {g : Mem} {x y : Int32} (h : CW b s g) : Runs Γ 1 yX4_listsReference iX4_listsReference [.inr b, .inl x, .inl y] g (fun r g' => r = bi (decide (ff (refP s x y) 0 (s 41) < s 41)) ∧ g' = g) :=
  Runs.intro (by decide) rfl (Nat.le_of_ble_eq_true rfl) (sg_X4_listsReference_0 b hb x y (lp_X4_listsReference hb h ⟨rfl, rfl⟩ (s 41) 0 (by omega) rfl))
theorem sg_X4_findRequirement_0 {Γ : Gam} {P : Int32 → Mem → Prop} (b : Nat) (hb : isSt b) (a1 a2 : Int32) {g : Mem} (h : AW Γ 1 iX4_findRequirement P 2 [some (.inr b), some (.inl a1), some (.inl a2), some (.inl 0)] [] g) : AW Γ 1 iX4_findRequirement P 0 [some (.inr b), some (.inl a1), some (.inl a2)] [] g :=
  (aw_iconst 0 dX4_findRequirement_0 (by decide) (aw_istore_n [some (.inr b), some (.inl a1), some (.inl a2), some (.inl 0)] dX4_findRequirement_1 (by decide) rfl (aw_mask [true, true, true, true] rfl h)))
theorem sg_X4_findRequirement_2 {Γ : Gam} {P : Int32 → Mem → Prop} (b : Nat) (hb : isSt b) (a1 a2 a3 : Int32) {g : Mem} (h : (((g b 8) ≤ a3 → P (-1) g) ∧ (¬ ((g b 8) ≤ a3) → (vp_in a3 4 ∧ ((¬ (g (b + 7) a3.toNatClampNeg) = a1 → AW Γ 1 iX4_findRequirement P 2 [some (.inr b), some (.inl a1), some (.inl a2), some (.inl (a3 + 1))] [] g) ∧ ((g (b + 7) a3.toNatClampNeg) = a1 → (vp_in a3 4 ∧ ((¬ (g (b + 8) a3.toNatClampNeg) = a2 → AW Γ 1 iX4_findRequirement P 2 [some (.inr b), some (.inl a1), some (.inl a2), some (.inl (a3 + 1))] [] g) ∧ ((g (b + 8) a3.toNatClampNeg) = a2 → P a3 g))))))))) : AW Γ 1 iX4_findRequirement P 2 [some (.inr b), some (.inl a1), some (.inl a2), some (.inl a3)] [] g :=
  (aw_iload_n dX4_findRequirement_2 rfl (aw_aload_n dX4_findRequirement_3 rfl (aw_geti fkX4_37 (fs_8 hb) dX4_findRequirement_4 (aw_icmp_ge 38 dX4_findRequirement_7 (by decide) (fun c1 => (aw_iconst (-1) dX4_findRequirement_38 (by decide) (aw_iret rfl (vp_nar_int _) dX4_findRequirement_39 (h.1 c1)))) (fun c1 => (aw_aload_n dX4_findRequirement_10 rfl (aw_getr (b + 7) fkX4_40 (fs_9 hb) dX4_findRequirement_11 (aw_iload_n dX4_findRequirement_14 rfl (aw_iald (as_7 hb) dX4_findRequirement_15 (h.2 c1).1 (aw_iload_n dX4_findRequirement_16 rfl (aw_icmp_ne 32 dX4_findRequirement_17 (by decide) (fun c2 => (aw_iinc (a3 + 1) [some (.inr b), some (.inl a1), some (.inl a2), some (.inl (a3 + 1))] dX4_findRequirement_32 rfl (by rfl) (by decide) rfl (aw_goto 2 dX4_findRequirement_35 (by decide) (aw_mask [true, true, true, true] rfl ((h.2 c1).2.1 c2))))) (fun c2 => (aw_aload_n dX4_findRequirement_20 rfl (aw_getr (b + 8) fkX4_43 (fs_10 hb) dX4_findRequirement_21 (aw_iload_n dX4_findRequirement_24 rfl (aw_iald (as_8 hb) dX4_findRequirement_25 ((h.2 c1).2.2 c2).1 (aw_iload_n dX4_findRequirement_26 rfl (aw_icmp_ne 32 dX4_findRequirement_27 (by decide) (fun c3 => (aw_iinc (a3 + 1) [some (.inr b), some (.inl a1), some (.inl a2), some (.inl (a3 + 1))] dX4_findRequirement_32 rfl (by rfl) (by decide) rfl (aw_goto 2 dX4_findRequirement_35 (by decide) (aw_mask [true, true, true, true] rfl (((h.2 c1).2.2 c2).2.1 c3))))) (fun c3 => (aw_iload_n dX4_findRequirement_30 rfl (aw_iret rfl (vp_nar_int _) dX4_findRequirement_31 (((h.2 c1).2.2 c2).2.2 c3))))))))))))))))))))))
theorem lp_X4_findRequirement {Γ : Gam} {P : Int32 → Mem → Prop} {b : Nat} (hb : isSt b) {s : St} {g : Mem} {x y : Int32} (h : CW b s g) (hP : P (fI (-1) (reqP s x y) (s 62)) g) : ∀ n i, i + n = s 62 → ff (reqP s x y) 0 (s 62) = ff (reqP s x y) i n → AW Γ 1 iX4_findRequirement P 2 [some (.inr b), some (.inl x), some (.inl y), some (.inl (nI i))] [] g := by
  intro n
  have hr := h.2.nq
  induction n with
  | zero =>
    intro i hi hf
    refine sg_X4_findRequirement_2 b hb x y (nI i) ?_
    rw [h.1.2.2.2.2.2.2.2.1]
    refine ⟨fun _ => ?_, fun c => absurd (nI_le (by omega) (by omega)) c⟩
    rw [fI_none (by rw [hf, ff]; omega)] at hP
    exact hP
  | succ n ih =>
    intro i hi hf
    refine sg_X4_findRequirement_2 b hb x y (nI i) ?_
    obtain ⟨e1, e2⟩ := h.1.2.2.2.2.2.2.2.2.1 i (by omega)
    rw [h.1.2.2.2.2.2.2.2.1, nI_1, ix_nI (by omega), e1, e2]
    refine ⟨fun c => absurd c (nI_ge (by omega) (by omega)), fun _ => ⟨vp_nI (by omega) (by omega), fun c => ?_, fun c => ⟨vp_nI (by omega) (by omega), fun c2 => ?_, fun c2 => ?_⟩⟩⟩
    · exact ih (i + 1) (by omega) (by rw [hf, ff_F (by simp [reqP, c])])
    · exact ih (i + 1) (by omega) (by rw [hf, ff_F (by simp [reqP, c2])])
    · rw [fI_at (i := i) (by rw [hf, ff_T (by simp [reqP, c, c2])]) (by omega)] at hP
      exact hP
theorem ct_X4_findRequirement {Γ : Gam} {b : Nat} (hb : isSt b) {s : St} {g : Mem} {x y : Int32} (h : CW b s g) : Runs Γ 1 yX4_findRequirement iX4_findRequirement [.inr b, .inl x, .inl y] g (fun r g' => r = fI (-1) (reqP s x y) (s 62) ∧ g' = g) :=
  Runs.intro (by decide) rfl (Nat.le_of_ble_eq_true rfl) (sg_X4_findRequirement_0 b hb x y (lp_X4_findRequirement hb h ⟨rfl, rfl⟩ (s 62) 0 (by omega) rfl))
theorem sg_X4_runHolds_0 {Γ : Gam} {P : Int32 → Mem → Prop} (b : Nat) (hb : isSt b) (a1 a2 : Int32) {g : Mem} (h : (vp_in a1 10 ∧ (bz (bi (hasB (g (b + 9) a1.toNatClampNeg) a2)) ∧ P (bi (hasB (g (b + 9) a1.toNatClampNeg) a2)) g))) : AW Γ 2 iX4_runHolds P 0 [some (.inr b), some (.inl a1), some (.inl a2)] [] g :=
  (aw_aload_n dX4_runHolds_0 rfl (aw_getr (b + 9) fkX4_46 (fs_11 hb) dX4_runHolds_1 (aw_iload_n dX4_runHolds_4 rfl (aw_iald (as_9 hb) dX4_runHolds_5 h.1 (aw_iload_n dX4_runHolds_6 rfl (aw_callSNi nkX4_72 ckX6_contains (d := 1) (by decide) [.inl (g (b + 9) a1.toNatClampNeg), .inl a2] rfl rfl (Nat.le_of_ble_eq_true rfl) dX4_runHolds_7 rfl (Runs.fn ct_X6_contains (aw_iret rfl h.2.1 dX4_runHolds_10 h.2.2))))))))
theorem ct_X4_runHolds {Γ : Gam} {b : Nat} (hb : isSt b) {s : St} {g : Mem} {x y : Int32} (h : CW b s g ∧ inR 10 x = true) : Runs Γ 2 yX4_runHolds iX4_runHolds [.inr b, .inl x, .inl y] g (fun r g' => r = bi (hasB (nI (s (71 + x.toNatClampNeg))) y) ∧ g' = g) := by
  obtain ⟨h, hx⟩ := h
  refine Runs.intro (by decide) rfl (Nat.le_of_ble_eq_true rfl) (sg_X4_runHolds_0 b hb x y ⟨vp_inR hx (Nat.le_refl _) (by decide), bz_bi _, ?_, rfl⟩)
  rw [h.1.2.2.2.2.2.2.2.2.2 _ (inR_ex hx).1]
/-- the number of references of the run -/
def sumPop (s : St) : Nat → Nat
  | 0 => 0
  | k + 1 => sumPop s k + pop (s (71 + k)) 10
theorem sg_X4_countRun_0 {Γ : Gam} {P : Int32 → Mem → Prop} (b : Nat) (hb : isSt b) {g : Mem} (h : AW Γ 2 iX4_countRun P 4 [some (.inr b), some (.inl 0), some (.inl 0)] [] g) : AW Γ 2 iX4_countRun P 0 [some (.inr b)] [] g :=
  (aw_iconst 0 dX4_countRun_0 (by decide) (aw_istore_n [some (.inr b), some (.inl 0)] dX4_countRun_1 (by decide) rfl (aw_iconst 0 dX4_countRun_2 (by decide) (aw_istore_n [some (.inr b), some (.inl 0), some (.inl 0)] dX4_countRun_3 (by decide) rfl (aw_mask [true, true, true] rfl h)))))
theorem sg_X4_countRun_4 {Γ : Gam} {P : Int32 → Mem → Prop} (b : Nat) (hb : isSt b) (a1 a2 : Int32) {g : Mem} (h : ((10 ≤ a2 → P a1 g) ∧ (¬ (10 ≤ a2) → (vp_in a2 10 ∧ AW Γ 2 iX4_countRun P 4 [some (.inr b), some (.inl (a1 + (bcI (g (b + 9) a2.toNatClampNeg)))), some (.inl (a2 + 1))] [] g)))) : AW Γ 2 iX4_countRun P 4 [some (.inr b), some (.inl a1), some (.inl a2)] [] g :=
  (aw_iload_n dX4_countRun_4 rfl (aw_bipush 10 dX4_countRun_5 (by decide) (aw_icmp_ge 28 dX4_countRun_7 (by decide) (fun c1 => (aw_iload_n dX4_countRun_28 rfl (aw_iret rfl (vp_nar_int _) dX4_countRun_29 (h.1 c1)))) (fun c1 => (aw_iload_n dX4_countRun_10 rfl (aw_aload_n dX4_countRun_11 rfl (aw_getr (b + 9) fkX4_46 (fs_11 hb) dX4_countRun_12 (aw_iload_n dX4_countRun_15 rfl (aw_iald (as_9 hb) dX4_countRun_16 (h.2 c1).1 (aw_callSi lkX4_82 ckJ6_bitCount_0f7a4 (d := 1) (by decide) [.inl (g (b + 9) a2.toNatClampNeg)] rfl rfl (Nat.le_of_ble_eq_true rfl) dX4_countRun_17 rfl (Runs.fn ct_J6_bitCount (aw_iadd dX4_countRun_20 (aw_istore_n [some (.inr b), some (.inl (a1 + (bcI (g (b + 9) a2.toNatClampNeg)))), some (.inl a2)] dX4_countRun_21 (by decide) rfl (aw_iinc (a2 + 1) [some (.inr b), some (.inl (a1 + (bcI (g (b + 9) a2.toNatClampNeg)))), some (.inl (a2 + 1))] dX4_countRun_22 rfl (by rfl) (by decide) rfl (aw_goto 4 dX4_countRun_25 (by decide) (aw_mask [true, true, true] rfl (h.2 c1).2))))))))))))))))
theorem lp_X4_countRun {Γ : Gam} {P : Int32 → Mem → Prop} {b : Nat} (hb : isSt b) {s : St} {g : Mem} (h : CW b s g) (hP : P (nI (sumPop s 10)) g) : ∀ n i, i + n = 10 → AW Γ 2 iX4_countRun P 4 [some (.inr b), some (.inl (nI (sumPop s i))), some (.inl (nI i))] [] g := by
  intro n
  induction n with
  | zero =>
    intro i hi
    have e : i = 10 := by omega
    subst e
    exact sg_X4_countRun_4 b hb _ _ ⟨fun _ => hP, fun c => absurd (nI_le (Nat.le_refl 10) (by decide)) c⟩
  | succ n ih =>
    intro i hi
    refine sg_X4_countRun_4 b hb _ _ ⟨fun c => absurd c (nI_ge (show i < 10 by omega) (by decide)), fun _ => ⟨vp_nI (by omega) (by decide), ?_⟩⟩
    rw [ix_nI (by omega), h.1.2.2.2.2.2.2.2.2.2 i (by omega), bcI_nI _ (h.2.rn (by omega)), nI_add, nI_1]
    exact ih (i + 1) (by omega)
theorem ct_X4_countRun {Γ : Gam} {b : Nat} (hb : isSt b) {s : St} {g : Mem} (h : CW b s g) : Runs Γ 2 yX4_countRun iX4_countRun [.inr b] g (fun r g' => r = nI (sumPop s 10) ∧ g' = g) :=
  Runs.intro (by decide) rfl (Nat.le_of_ble_eq_true rfl) (sg_X4_countRun_0 b hb (lp_X4_countRun hb h ⟨rfl, rfl⟩ 10 0 rfl))
