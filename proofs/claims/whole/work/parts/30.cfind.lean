/-! The class's search for a cause. -/
theorem pairc (a b : Nat) : nI a * 10 + nI b = nI (10 * a + b) := by rw [Int32.mul_comm, pair_nI']
theorem low_msk {w n : Nat} {p : Nat → Bool} (hn : n ≤ 10) (h : ∀ k, w.testBit k = (decide (k < n) && p k)) : lowB (nI w) = fI (-1) p n := by
  have e : w = msk p n := msk_eq h
  have hl : w < 1024 := by rw [e]; exact msk_lt' p hn
  rw [lowB_nI hl, fI_n hn (fun j hj => by rw [h, decide_eq_false (by omega)]; rfl)]
  unfold fI
  rw [ff_cong (p := fun k => w.testBit k) (q := p) n 0 (fun j _ hj => by show w.testBit j = p j; rw [h, decide_eq_true (by omega)]; rfl)]
theorem has_msk {p : Nat → Bool} {n k : Nat} (hn : n ≤ 10) (hk : k < n) : hasB (nI (msk p n)) (nI k) = p k := by
  have := msk_lt' p hn
  rw [hasB_nI (by omega) (by omega), msk_bit, decide_eq_true hk]; rfl
theorem msk_zero {w n : Nat} {p : Nat → Bool} (hn : n ≤ 10) (h : ∀ k, w.testBit k = (decide (k < n) && p k)) : nI w = 0 ↔ ¬ ff p 0 n < n := by
  have e : w = msk p n := msk_eq h
  have hl : w < 1024 := by rw [e]; exact msk_lt' p hn
  rw [show (0 : Int32) = nI 0 from rfl, nI_eq (by omega) (by decide)]
  constructor
  · intro e0 q
    have y := ff_yes p n 0 (by omega)
    have z := h (ff p 0 n)
    rw [e0, Nat.zero_testBit, decide_eq_true q, y] at z
    cases z
  · intro q
    apply Nat.eq_of_testBit_eq
    intro k
    rw [h, Nat.zero_testBit]
    by_cases hk : k < n
    · rw [ff_no p n 0 k (Nat.zero_le _) (by have := (ff_bounds p n 0).2; omega), Bool.and_false]
    · rw [decide_eq_false hk, Bool.false_and]
/-- the roles, and the rows and columns of E -/
def Ae (s : St) (E : Rel) (g : Mem) : Prop := RolesOk s g ∧ (∀ a, a < s 0 → g 13 a = nI (msk (E a) (s 0))) ∧ ∀ b, b < s 0 → g 14 b = nI (msk (fun a => E a b) (s 0))
def sc (g : Mem) (i : Nat) (r x p q : Int32) : Mem := up (up (up (up g 16 i r) 17 i x) 18 i p) 19 i q
def p1 (s : St) (E : Rel) (r a b : Nat) : Nat :=
  let x := pt s E r a b
  if r = 1 then 10 * x + a else if r = 2 then 10 * a + x else if r = 3 then 10 * a + x else if r = 4 then 10 * a + x else 10 * x + b
def p2 (s : St) (E : Rel) (r a b : Nat) : Nat :=
  let x := pt s E r a b
  if r = 1 then (if x = b then 100 else 10 * x + b) else if r = 2 then 10 * x + b else if r = 3 then 10 * a + ff (qk s E a (s (11 + x))) 0 (s 0) else if r = 4 then 100 else 10 * ff (qu s E x) 0 (s 0) + x
def p2i (s : St) (E : Rel) (r a b : Nat) : Int32 := if p2 s E r a b = 100 then -1 else nI (p2 s E r a b)
theorem p2i_of {s : St} {E : Rel} {r a b v : Nat} (h : p2 s E r a b = v) (hv : v < 100) : p2i s E r a b = nI v := by
  unfold p2i
  rw [h, if_neg (by omega)]
/-- the memory with the cause of (a, b) under rule r written down -/
def cau (s : St) (E : Rel) (r a b : Nat) (g : Mem) : Mem := sc g (10 * a + b) (nI r) (nI (pt s E r a b)) (nI (p1 s E r a b)) (p2i s E r a b)
theorem sg_X0_setCause_0 {Γ : Gam} {P : Int32 → Mem → Prop}  (a1 a2 a3 a4 a5 : Int32) {g : Mem} (h : (vp_in a1 100 ∧ (vp_in a1 100 ∧ (vp_in a1 100 ∧ (vp_in a1 100 ∧ P 0 (up (up (up (up g 16 a1.toNatClampNeg a2) 17 a1.toNatClampNeg a3) 18 a1.toNatClampNeg a4) 19 a1.toNatClampNeg a5)))))) : AW Γ 1 iX0_setCause P 0 [some (.inr 12), some (.inl a1), some (.inl a2), some (.inl a3), some (.inl a4), some (.inl a5)] [] g :=
  (aw_aload_n dX0_setCause_0 rfl (aw_getr 16 fkX0_21 fa_12_3 dX0_setCause_1 (aw_iload_n dX0_setCause_4 rfl (aw_iload_n dX0_setCause_5 rfl (aw_iast aa_16 dX0_setCause_6 h.1 (aw_aload_n dX0_setCause_7 rfl (aw_getr 17 fkX0_24 fa_12_4 dX0_setCause_8 (aw_iload_n dX0_setCause_11 rfl (aw_iload_n dX0_setCause_12 rfl (aw_iast aa_17 dX0_setCause_13 h.2.1 (aw_aload_n dX0_setCause_14 rfl (aw_getr 18 fkX0_27 fa_12_5 dX0_setCause_15 (aw_iload_n dX0_setCause_18 rfl (aw_iload dX0_setCause_19 rfl (aw_iast aa_18 dX0_setCause_21 h.2.2.1 (aw_aload_n dX0_setCause_22 rfl (aw_getr 19 fkX0_30 fa_12_6 dX0_setCause_23 (aw_iload_n dX0_setCause_26 rfl (aw_iload dX0_setCause_27 rfl (aw_iast aa_19 dX0_setCause_29 h.2.2.2.1 (aw_vret rfl dX0_setCause_30 h.2.2.2.2)))))))))))))))))))))
theorem ct_X0_setCause {Γ : Gam} {g : Mem} {i : Nat} {r x p q : Int32} (hi : i < 100) : Runs Γ 1 yX0_setCause iX0_setCause [.inr 12, .inl (nI i), .inl r, .inl x, .inl p, .inl q] g (fun _ g' => g' = sc g i r x p q) := by
  refine Runs.intro (by decide) rfl (Nat.le_of_ble_eq_true rfl) (sg_X0_setCause_0 _ _ _ _ _ ?_)
  rw [ix_nI (by omega)]
  exact ⟨vp_nI hi (by decide), vp_nI hi (by decide), vp_nI hi (by decide), vp_nI hi (by decide), rfl⟩
theorem pt_on {s : St} {E : Rel} {r a b : Nat} {c : Bool} {q : Nat → Bool} (h : ∀ k, qq s E r a b k = (c && q k)) (hc : c = true) : pt s E r a b = ff q 0 (s 0) := ff_cong _ _ (fun k _ _ => by rw [h, hc]; rfl)
theorem pt_off {s : St} {E : Rel} {r a b : Nat} {c : Bool} {q : Nat → Bool} (h : ∀ k, qq s E r a b k = (c && q k)) (hc : c = false) : ¬ pt s E r a b < s 0 := by
  unfold pt
  rw [ff_all (fun k _ => by rw [h, hc]; rfl)]
  exact Nat.lt_irrefl _
theorem qq1 {s : St} {E : Rel} {a b : Nat} (k : Nat) : qq s E 1 a b k = (dz s a 4 && q1 s E a b k) := by unfold qq; rw [if_pos rfl]
theorem qq2 {s : St} {E : Rel} {a b : Nat} (k : Nat) : qq s E 2 a b k = (dz s a 2 && q2 s E a b k) := by unfold qq; rw [if_neg (by decide), if_pos rfl]
theorem qq3 {s : St} {E : Rel} {a b : Nat} (k : Nat) : qq s E 3 a b k = (dz s a 2 && q3 s E a b k) := by unfold qq; rw [if_neg (by decide), if_neg (by decide), if_pos rfl]
theorem qq4 {s : St} {E : Rel} {a b : Nat} (k : Nat) : qq s E 4 a b k = (dz s a 2 && q4 s E a b k) := by unfold qq; rw [if_neg (by decide), if_neg (by decide), if_neg (by decide), if_pos rfl]
theorem qq5 {s : St} {E : Rel} {a b : Nat} (k : Nat) : qq s E 5 a b k = (true && q5 s E a b k) := by unfold qq; rw [if_neg (by decide), if_neg (by decide), if_neg (by decide), if_neg (by decide)]; rfl
theorem fI_lt {p : Nat → Bool} {n : Nat} (hn : n < 2 ^ 31) : fI (-1) p n = -1 ↔ ¬ ff p 0 n < n := by
  unfold fI
  split
  · rename_i c
    exact ⟨fun e => absurd e (nI_ne_neg (by omega) (by decide)), fun d => absurd c d⟩
  · rename_i c
    exact ⟨fun _ => c, fun _ => rfl⟩
theorem sg_X0_findGift_0 {Γ : Gam} {P : Int32 → Mem → Prop}  (a2 a3 : Int32) {g : Mem} (h : ((¬ (bi (hasB (g 6 3) a2)) = 0 → (vp_in a2 10 ∧ (vp_in a3 10 ∧ ((¬ (lowB (((g 6 1) &&& (g 14 a2.toNatClampNeg)) &&& ((g 14 a3.toNatClampNeg) ||| (1 <<< (a3 &&& 31))))) = (-1) → ((¬ (lowB (((g 6 1) &&& (g 14 a2.toNatClampNeg)) &&& ((g 14 a3.toNatClampNeg) ||| (1 <<< (a3 &&& 31))))) = a3 → AW Γ 3 iX0_findGift P 65 [some (.inr 12), none, some (.inl a2), some (.inl a3), some (.inl (lowB (((g 6 1) &&& (g 14 a2.toNatClampNeg)) &&& ((g 14 a3.toNatClampNeg) ||| (1 <<< (a3 &&& 31))))))] [.inl ((lowB (((g 6 1) &&& (g 14 a2.toNatClampNeg)) &&& ((g 14 a3.toNatClampNeg) ||| (1 <<< (a3 &&& 31))))) * 10 + a3)] g) ∧ ((lowB (((g 6 1) &&& (g 14 a2.toNatClampNeg)) &&& ((g 14 a3.toNatClampNeg) ||| (1 <<< (a3 &&& 31))))) = a3 → AW Γ 3 iX0_findGift P 65 [some (.inr 12), none, some (.inl a2), some (.inl a3), some (.inl (lowB (((g 6 1) &&& (g 14 a2.toNatClampNeg)) &&& ((g 14 a3.toNatClampNeg) ||| (1 <<< (a3 &&& 31))))))] [.inl (-1)] g))) ∧ ((lowB (((g 6 1) &&& (g 14 a2.toNatClampNeg)) &&& ((g 14 a3.toNatClampNeg) ||| (1 <<< (a3 &&& 31))))) = (-1) → P 0 g))))) ∧ ((bi (hasB (g 6 3) a2)) = 0 → P 0 g))) : AW Γ 3 iX0_findGift P 0 [some (.inr 12), some (.inr 6), some (.inl a2), some (.inl a3)] [] g :=
  (aw_aload_n dX0_findGift_0 rfl (aw_geti fkX0_96 fa_6_3 dX0_findGift_1 (aw_iload_n dX0_findGift_4 rfl (aw_callSNi nkX0_70 ckX6_contains (d := 1) (by decide) [.inl (g 6 3), .inl a2] rfl rfl (Nat.le_of_ble_eq_true rfl) dX0_findGift_5 rfl (Runs.fn ct_X6_contains (aw_if_ne 13 dX0_findGift_8 (by decide) (fun c1 => (aw_aload_n dX0_findGift_13 rfl (aw_geti fkX0_99 fa_6_1 dX0_findGift_14 (aw_aload_n dX0_findGift_17 rfl (aw_getr 14 fkX0_15 fa_12_1 dX0_findGift_18 (aw_iload_n dX0_findGift_21 rfl (aw_iald aa_14 dX0_findGift_22 (h.1 c1).1 (aw_iand dX0_findGift_23 (aw_aload_n dX0_findGift_24 rfl (aw_getr 14 fkX0_15 fa_12_1 dX0_findGift_25 (aw_iload_n dX0_findGift_28 rfl (aw_iald aa_14 dX0_findGift_29 (h.1 c1).2.1 (aw_iload_n dX0_findGift_30 rfl (aw_callSNi nkX0_78 ckX6_bit (d := 1) (by decide) [.inl a3] rfl rfl (Nat.le_of_ble_eq_true rfl) dX0_findGift_31 rfl (Runs.fn ct_X6_bit (aw_ior dX0_findGift_34 (aw_iand dX0_findGift_35 (aw_callSNi nkX0_102 ckX6_lowest (d := 2) (by decide) [.inl (((g 6 1) &&& (g 14 a2.toNatClampNeg)) &&& ((g 14 a3.toNatClampNeg) ||| (1 <<< (a3 &&& 31))))] rfl rfl (Nat.le_of_ble_eq_true rfl) dX0_findGift_36 rfl (Runs.fn ct_X6_lowest (aw_istore [some (.inr 12), some (.inr 6), some (.inl a2), some (.inl a3), some (.inl (lowB (((g 6 1) &&& (g 14 a2.toNatClampNeg)) &&& ((g 14 a3.toNatClampNeg) ||| (1 <<< (a3 &&& 31))))))] dX0_findGift_39 (by decide) rfl (aw_iload dX0_findGift_41 rfl (aw_iconst (-1) dX0_findGift_43 (by decide) (aw_icmp_ne 49 dX0_findGift_44 (by decide) (fun c2 => (aw_iload dX0_findGift_49 rfl (aw_iload_n dX0_findGift_51 rfl (aw_icmp_ne 59 dX0_findGift_52 (by decide) (fun c3 => (aw_iload dX0_findGift_59 rfl (aw_iload_n dX0_findGift_61 rfl (aw_callSNi nkX0_74 ckX6_pair (d := 1) (by decide) [.inl (lowB (((g 6 1) &&& (g 14 a2.toNatClampNeg)) &&& ((g 14 a3.toNatClampNeg) ||| (1 <<< (a3 &&& 31))))), .inl a3] rfl rfl (Nat.le_of_ble_eq_true rfl) dX0_findGift_62 rfl (Runs.fn ct_X6_pair (aw_mask [true, false, true, true, true] rfl (((h.1 c1).2.2.1 c2).1 c3))))))) (fun c3 => (aw_iconst (-1) dX0_findGift_55 (by decide) (aw_goto 65 dX0_findGift_56 (by decide) (aw_mask [true, false, true, true, true] rfl (((h.1 c1).2.2.1 c2).2 c3))))))))) (fun c2 => (aw_iconst 0 dX0_findGift_47 (by decide) (aw_iret rfl (by decide) dX0_findGift_48 ((h.1 c1).2.2.2 c2))))))))))))))))))))))))))) (fun c1 => (aw_iconst 0 dX0_findGift_11 (by decide) (aw_iret rfl (by decide) dX0_findGift_12 (h.2 c1))))))))))
theorem sg_X0_findGift_65 {Γ : Gam} {P : Int32 → Mem → Prop}  (a2 a3 a4 v0 : Int32) {g : Mem} (h : (Runs Γ 1 yX0_setCause iX0_setCause [.inr 12, .inl (a2 * 10 + a3), .inl 1, .inl a4, .inl (a4 * 10 + a2), .inl v0] g (fun r1 g1 => P 1 g1))) : AW Γ 3 iX0_findGift P 65 [some (.inr 12), none, some (.inl a2), some (.inl a3), some (.inl a4)] [.inl v0] g :=
  (aw_istore [some (.inr 12), none, some (.inl a2), some (.inl a3), some (.inl a4), some (.inl v0)] dX0_findGift_65 (by decide) rfl (aw_aload_n dX0_findGift_67 rfl (aw_iload_n dX0_findGift_68 rfl (aw_iload_n dX0_findGift_69 rfl (aw_callSNi nkX0_74 ckX6_pair (d := 1) (by decide) [.inl a2, .inl a3] rfl rfl (Nat.le_of_ble_eq_true rfl) dX0_findGift_70 rfl (Runs.fn ct_X6_pair (aw_iconst 1 dX0_findGift_73 (by decide) (aw_iload dX0_findGift_74 rfl (aw_iload dX0_findGift_76 rfl (aw_iload_n dX0_findGift_78 rfl (aw_callSNi nkX0_74 ckX6_pair (d := 1) (by decide) [.inl a4, .inl a2] rfl rfl (Nat.le_of_ble_eq_true rfl) dX0_findGift_79 rfl (Runs.fn ct_X6_pair (aw_iload dX0_findGift_82 rfl (aw_callVv lkX0_105 ckX0_setCause ca_12 rfl (d := 1) (by decide) [.inl (a2 * 10 + a3), .inl 1, .inl a4, .inl (a4 * 10 + a2), .inl v0] rfl rfl (Nat.le_of_ble_eq_true rfl) dX0_findGift_84 rfl (Runs.mono h (fun r1 g1 h1_ => (aw_iconst 1 dX0_findGift_87 (by decide) (aw_iret rfl (by decide) dX0_findGift_88 h1_))))))))))))))))))
theorem ct_X0_findGift {Γ : Gam} {s : St} {E : Rel} {g : Mem} {a b : Nat} (hw : WF s) (h : Ae s E g) (ha : a < s 0) (hb : b < s 0) : Runs Γ 3 yX0_findGift iX0_findGift [.inr 12, .inr 6, .inl (nI a), .inl (nI b)] g (fun v g' => (pt s E 1 a b < s 0 ∧ v = 1 ∧ g' = cau s E 1 a b g) ∨ (¬ pt s E 1 a b < s 0 ∧ v = 0 ∧ g' = g)) := by
  have hn := hw.n
  refine Runs.intro (by decide) rfl (Nat.le_of_ble_eq_true rfl) (sg_X0_findGift_0 _ _ ?_)
  have eL : lowB (((g 6 1) &&& (g 14 (nI a).toNatClampNeg)) &&& ((g 14 (nI b).toNatClampNeg) ||| (1 <<< (nI b &&& 31)))) = fI (-1) (q1 s E a b) (s 0) := by
    rw [ix_nI (by omega), ix_nI (by omega), h.1.2.1, h.2.2 a ha, h.2.2 b hb, bit_nI (by omega), fa_or', fa_and', fa_and']
    refine low_msk hn (fun k => ?_)
    rw [Nat.testBit_and, Nat.testBit_and, Nat.testBit_or, msk_bit, msk_bit, msk_bit, Nat.testBit_two_pow]
    unfold q1
    by_cases hk : k < s 0
    · rw [decide_eq_true hk]
      cases dz s k 1 <;> cases E k a <;> cases E k b <;> simp [eq_comm]
    · rw [decide_eq_false hk]; rfl
  rw [eL, h.1.2.2.2.1, has_msk hn ha]
  refine ⟨fun c => ?_, fun c => Or.inr ⟨pt_off qq1 (bi_eq0.mp c), rfl, rfl⟩⟩
  have e := pt_on (b := b) (E := E) qq1 (bi_ne0.mp c)
  refine ⟨vp_nI (by omega) (by decide), vp_nI (by omega) (by decide), fun c1 => ?_, fun c1 => ?_⟩
  · rw [fI_lt (by omega), Decidable.not_not] at c1
    rw [fI_at rfl c1, ← e]
    rw [← e] at c1
    have key : ∀ v0 : Int32, v0 = p2i s E 1 a b → AW Γ 3 iX0_findGift (fun v g' => (pt s E 1 a b < s 0 ∧ v = 1 ∧ g' = cau s E 1 a b g) ∨ (¬ pt s E 1 a b < s 0 ∧ v = 0 ∧ g' = g)) 65 [some (.inr 12), none, some (.inl (nI a)), some (.inl (nI b)), some (.inl (nI (pt s E 1 a b)))] [.inl v0] g := by
      intro v0 ev
      refine sg_X0_findGift_65 _ _ _ _ ?_
      rw [pairc, pairc, ev]
      exact (ct_X0_setCause (by omega)).mono (fun _ g1 q => Or.inl ⟨c1, rfl, q⟩)
    refine ⟨fun c2 => ?_, fun c2 => ?_⟩
    · rw [nI_eq (by omega) (by omega)] at c2
      refine key _ ?_
      unfold p2i p2
      rw [pairc]
      dsimp only
      rw [if_pos rfl, if_neg c2, if_neg (by omega)]
    · rw [nI_eq (by omega) (by omega)] at c2
      refine key _ ?_
      unfold p2i p2
      dsimp only
      rw [if_pos rfl, if_pos c2, if_pos rfl]
  · rw [fI_lt (by omega), ← e] at c1
    exact Or.inr ⟨c1, rfl, rfl⟩
theorem op_bits {s : St} {E : Rel} {a x : Nat} (hx : kz s x 1 = true) (k : Nat) : (msk (E a) (s 0) &&& msk (opn s x) (s 0)).testBit k = (decide (k < s 0) && qk s E a (s (11 + x)) k) := by
  rw [Nat.testBit_and, msk_bit, msk_bit]
  unfold qk opn
  rw [hx]
  by_cases hk : k < s 0
  · rw [decide_eq_true hk]
    cases E a k <;> cases kz s k 2 <;> simp
  · rw [decide_eq_false hk]; rfl
theorem op_row {s : St} {g : Mem} (h : RolesOk s g) {x : Nat} (hx : x < s 0) : g 8 x = nI (msk (opn s x) (s 0)) := (h.2.2.2.2.2.2.2 x hx).2.1
theorem sg_X0_findOpenBox_0 {Γ : Gam} {P : Int32 → Mem → Prop}  (a2 a3 : Int32) {g : Mem} (h : (vp_in a2 10 ∧ (vp_in a3 10 ∧ AW Γ 2 iX0_findOpenBox P 18 [some (.inr 12), some (.inr 6), some (.inl a2), none, some (.inl ((g 13 a2.toNatClampNeg) &&& (g 9 a3.toNatClampNeg))), some (.inl 0)] [] g))) : AW Γ 2 iX0_findOpenBox P 0 [some (.inr 12), some (.inr 6), some (.inl a2), some (.inl a3)] [] g :=
  (aw_aload_n dX0_findOpenBox_0 rfl (aw_getr 13 fkX0_9 fa_12_0 dX0_findOpenBox_1 (aw_iload_n dX0_findOpenBox_4 rfl (aw_iald aa_13 dX0_findOpenBox_5 h.1 (aw_aload_n dX0_findOpenBox_6 rfl (aw_getr 9 fkX0_125 fa_6_9 dX0_findOpenBox_7 (aw_iload_n dX0_findOpenBox_10 rfl (aw_iald aa_9 dX0_findOpenBox_11 h.2.1 (aw_iand dX0_findOpenBox_12 (aw_istore [some (.inr 12), some (.inr 6), some (.inl a2), some (.inl a3), some (.inl ((g 13 a2.toNatClampNeg) &&& (g 9 a3.toNatClampNeg)))] dX0_findOpenBox_13 (by decide) rfl (aw_iconst 0 dX0_findOpenBox_15 (by decide) (aw_istore [some (.inr 12), some (.inr 6), some (.inl a2), some (.inl a3), some (.inl ((g 13 a2.toNatClampNeg) &&& (g 9 a3.toNatClampNeg))), some (.inl 0)] dX0_findOpenBox_16 (by decide) rfl (aw_mask [true, true, true, false, true, true] rfl h.2.2)))))))))))))
theorem sg_X0_findOpenBox_18 {Γ : Gam} {P : Int32 → Mem → Prop}  (a2 a4 a5 : Int32) {g : Mem} (h : (((g 6 0) ≤ a5 → P (-1) g) ∧ (¬ ((g 6 0) ≤ a5) → (((bi (hasB a4 a5)) = 0 → AW Γ 2 iX0_findOpenBox P 18 [some (.inr 12), some (.inr 6), some (.inl a2), none, some (.inl a4), some (.inl (a5 + 1))] [] g) ∧ (¬ (bi (hasB a4 a5)) = 0 → (vp_in a2 10 ∧ (vp_in a5 10 ∧ ((((g 13 a2.toNatClampNeg) &&& (g 8 a5.toNatClampNeg)) = 0 → AW Γ 2 iX0_findOpenBox P 18 [some (.inr 12), some (.inr 6), some (.inl a2), none, some (.inl a4), some (.inl (a5 + 1))] [] g) ∧ (¬ ((g 13 a2.toNatClampNeg) &&& (g 8 a5.toNatClampNeg)) = 0 → P a5 g))))))))) : AW Γ 2 iX0_findOpenBox P 18 [some (.inr 12), some (.inr 6), some (.inl a2), none, some (.inl a4), some (.inl a5)] [] g :=
  (aw_iload dX0_findOpenBox_18 rfl (aw_aload_n dX0_findOpenBox_20 rfl (aw_geti fkX0_57 fa_6_0 dX0_findOpenBox_21 (aw_icmp_ge 63 dX0_findOpenBox_24 (by decide) (fun c1 => (aw_iconst (-1) dX0_findOpenBox_63 (by decide) (aw_iret rfl (vp_nar_int _) dX0_findOpenBox_64 (h.1 c1)))) (fun c1 => (aw_iload dX0_findOpenBox_27 rfl (aw_iload dX0_findOpenBox_29 rfl (aw_callSNi nkX0_70 ckX6_contains (d := 1) (by decide) [.inl a4, .inl a5] rfl rfl (Nat.le_of_ble_eq_true rfl) dX0_findOpenBox_31 rfl (Runs.fn ct_X6_contains (aw_if_eq 57 dX0_findOpenBox_34 (by decide) (fun c2 => (aw_iinc (a5 + 1) [some (.inr 12), some (.inr 6), some (.inl a2), none, some (.inl a4), some (.inl (a5 + 1))] dX0_findOpenBox_57 rfl (by rfl) (by decide) rfl (aw_goto 18 dX0_findOpenBox_60 (by decide) (aw_mask [true, true, true, false, true, true] rfl ((h.2 c1).1 c2))))) (fun c2 => (aw_aload_n dX0_findOpenBox_37 rfl (aw_getr 13 fkX0_9 fa_12_0 dX0_findOpenBox_38 (aw_iload_n dX0_findOpenBox_41 rfl (aw_iald aa_13 dX0_findOpenBox_42 ((h.2 c1).2 c2).1 (aw_aload_n dX0_findOpenBox_43 rfl (aw_getr 8 fkX0_119 fa_6_8 dX0_findOpenBox_44 (aw_iload dX0_findOpenBox_47 rfl (aw_iald aa_8 dX0_findOpenBox_49 ((h.2 c1).2 c2).2.1 (aw_iand dX0_findOpenBox_50 (aw_if_eq 57 dX0_findOpenBox_51 (by decide) (fun c3 => (aw_iinc (a5 + 1) [some (.inr 12), some (.inr 6), some (.inl a2), none, some (.inl a4), some (.inl (a5 + 1))] dX0_findOpenBox_57 rfl (by rfl) (by decide) rfl (aw_goto 18 dX0_findOpenBox_60 (by decide) (aw_mask [true, true, true, false, true, true] rfl (((h.2 c1).2 c2).2.2.1 c3))))) (fun c3 => (aw_iload dX0_findOpenBox_54 rfl (aw_iret rfl (vp_nar_int _) dX0_findOpenBox_56 (((h.2 c1).2 c2).2.2.2 c3)))))))))))))))))))))))))
theorem lp_X0_openBox {Γ : Gam} {P : Int32 → Mem → Prop} {s : St} {E : Rel} {g : Mem} {a b w : Nat} (hw : WF s) (h : Ae s E g) (ha : a < s 0) (ew : ∀ k, k < s 0 → hasB (nI w) (nI k) = (kz s k 1 && (decide (s (21 + k) = b) && E a k))) (hP : P (fI (-1) (q3 s E a b) (s 0)) g) : ∀ n k, k + n = s 0 → ff (q3 s E a b) 0 (s 0) = ff (q3 s E a b) k n → AW Γ 2 iX0_findOpenBox P 18 [some (.inr 12), some (.inr 6), some (.inl (nI a)), none, some (.inl (nI w)), some (.inl (nI k))] [] g := by
  intro n
  have hn := hw.n
  induction n with
  | zero =>
    intro k hk e
    refine sg_X0_findOpenBox_18 _ _ _ ?_
    rw [h.1.1]
    refine ⟨fun _ => ?_, fun c => absurd (nI_le (by omega) (by omega)) c⟩
    rw [ff] at e
    rw [fI_none (by omega)] at hP
    exact hP
  | succ n ih =>
    intro k hk e
    refine sg_X0_findOpenBox_18 _ _ _ ?_
    have no : q3 s E a b k = false → AW Γ 2 iX0_findOpenBox P 18 [some (.inr 12), some (.inr 6), some (.inl (nI a)), none, some (.inl (nI w)), some (.inl (nI (k + 1)))] [] g := fun q => ih (k + 1) (by omega) (by rw [e, ff_F q])
    rw [h.1.1, ew k (by omega), nI_1, ix_nI (n := a) (by omega), ix_nI (n := k) (by omega), h.2.1 a ha, op_row h.1 (x := k) (by omega), fa_and']
    refine ⟨fun c => absurd c (nI_ge (by omega) (by omega)), fun _ => ⟨fun c => ?_, fun c => ?_⟩⟩
    · rw [bi_eq0] at c
      refine no ?_
      unfold q3
      revert c
      cases kz s k 1 <;> cases E a k <;> simp
      intro e1 e2; exact absurd e2 e1
    · rw [bi_ne0, Bool.and_eq_true, Bool.and_eq_true] at c
      rw [msk_zero hn (op_bits c.1)]
      refine ⟨vp_nI (by omega) (by decide), vp_nI (by omega) (by decide), fun c2 => no ?_, fun c2 => ?_⟩
      · unfold q3
        rw [decide_eq_false c2]
        simp
      · rw [Decidable.not_not] at c2
        have q : q3 s E a b k = true := by
          unfold q3
          rw [c.1, c.2.1, c.2.2, decide_eq_true c2]; rfl
        rw [ff_T q] at e
        rw [fI_at e (by omega)] at hP
        exact hP
theorem ct_X0_findOpenBox {Γ : Gam} {s : St} {E : Rel} {g : Mem} {a b : Nat} (hw : WF s) (h : Ae s E g) (ha : a < s 0) (hb : b < s 0) : Runs Γ 2 yX0_findOpenBox iX0_findOpenBox [.inr 12, .inr 6, .inl (nI a), .inl (nI b)] g (fun v g' => v = fI (-1) (q3 s E a b) (s 0) ∧ g' = g) := by
  have hn := hw.n
  refine Runs.intro (by decide) rfl (Nat.le_of_ble_eq_true rfl) (sg_X0_findOpenBox_0 _ _ ?_)
  have e9 : g 9 b = nI (msk (pw s b) (s 0)) := (h.1.2.2.2.2.2.2.2 b hb).2.2.1
  rw [ix_nI (by omega), ix_nI (by omega), h.2.1 a ha, e9, fa_and']
  refine ⟨vp_nI (by omega) (by decide), vp_nI (by omega) (by decide), lp_X0_openBox hw h ha (fun k hk => ?_) ⟨rfl, rfl⟩ (s 0) 0 (by omega) rfl⟩
  have l1 := msk_lt' (E a) hn
  rw [hasB_nI (by have := and_lt (b := msk (pw s b) (s 0)) l1; omega) (by omega), Nat.testBit_and, msk_bit, msk_bit, decide_eq_true hk]
  unfold pw
  cases E a k <;> cases kz s k 1 <;> simp
theorem sg_X0_findTaking_0 {Γ : Gam} {P : Int32 → Mem → Prop}  (a2 a3 : Int32) {g : Mem} (h : ((¬ (bi (hasB (g 6 2) a2)) = 0 → (vp_in a2 10 ∧ (vp_in a3 10 ∧ (((lowB (((g 13 a2.toNatClampNeg) &&& (g 6 4)) &&& (g 14 a3.toNatClampNeg))) = (-1) → (Runs Γ 2 yX0_findOpenBox iX0_findOpenBox [.inr 12, .inr 6, .inl a2, .inl a3] g (fun r1 g1 => ((r1 = (-1) → (vp_in a2 10 ∧ (vp_in a3 10 ∧ (((lowB ((g1 13 a2.toNatClampNeg) &&& (g1 10 a3.toNatClampNeg))) = (-1) → P 0 g1) ∧ (¬ (lowB ((g1 13 a2.toNatClampNeg) &&& (g1 10 a3.toNatClampNeg))) = (-1) → (Runs Γ 1 yX0_setCause iX0_setCause [.inr 12, .inl (a2 * 10 + a3), .inl 4, .inl (lowB ((g1 13 a2.toNatClampNeg) &&& (g1 10 a3.toNatClampNeg))), .inl (a2 * 10 + (lowB ((g1 13 a2.toNatClampNeg) &&& (g1 10 a3.toNatClampNeg)))), .inl (-1)] g1 (fun r2 g2 => P 1 g2))))))) ∧ (¬ r1 = (-1) → (vp_in a2 10 ∧ (vp_in r1 10 ∧ (Runs Γ 1 yX0_setCause iX0_setCause [.inr 12, .inl (a2 * 10 + a3), .inl 3, .inl r1, .inl (a2 * 10 + r1), .inl (a2 * 10 + (lowB ((g1 13 a2.toNatClampNeg) &&& (g1 8 r1.toNatClampNeg))))] g1 (fun r3 g3 => P 1 g3))))))))) ∧ (¬ (lowB (((g 13 a2.toNatClampNeg) &&& (g 6 4)) &&& (g 14 a3.toNatClampNeg))) = (-1) → (Runs Γ 1 yX0_setCause iX0_setCause [.inr 12, .inl (a2 * 10 + a3), .inl 2, .inl (lowB (((g 13 a2.toNatClampNeg) &&& (g 6 4)) &&& (g 14 a3.toNatClampNeg))), .inl (a2 * 10 + (lowB (((g 13 a2.toNatClampNeg) &&& (g 6 4)) &&& (g 14 a3.toNatClampNeg)))), .inl ((lowB (((g 13 a2.toNatClampNeg) &&& (g 6 4)) &&& (g 14 a3.toNatClampNeg))) * 10 + a3)] g (fun r4 g4 => P 1 g4))))))) ∧ ((bi (hasB (g 6 2) a2)) = 0 → P 0 g))) : AW Γ 3 iX0_findTaking P 0 [some (.inr 12), some (.inr 6), some (.inl a2), some (.inl a3)] [] g :=
  (aw_aload_n dX0_findTaking_0 rfl (aw_geti fkX0_109 fa_6_2 dX0_findTaking_1 (aw_iload_n dX0_findTaking_4 rfl (aw_callSNi nkX0_70 ckX6_contains (d := 1) (by decide) [.inl (g 6 2), .inl a2] rfl rfl (Nat.le_of_ble_eq_true rfl) dX0_findTaking_5 rfl (Runs.fn ct_X6_contains (aw_if_ne 13 dX0_findTaking_8 (by decide) (fun c1 => (aw_aload_n dX0_findTaking_13 rfl (aw_getr 13 fkX0_9 fa_12_0 dX0_findTaking_14 (aw_iload_n dX0_findTaking_17 rfl (aw_iald aa_13 dX0_findTaking_18 (h.1 c1).1 (aw_aload_n dX0_findTaking_19 rfl (aw_geti fkX0_112 fa_6_4 dX0_findTaking_20 (aw_iand dX0_findTaking_23 (aw_aload_n dX0_findTaking_24 rfl (aw_getr 14 fkX0_15 fa_12_1 dX0_findTaking_25 (aw_iload_n dX0_findTaking_28 rfl (aw_iald aa_14 dX0_findTaking_29 (h.1 c1).2.1 (aw_iand dX0_findTaking_30 (aw_callSNi nkX0_102 ckX6_lowest (d := 2) (by decide) [.inl (((g 13 a2.toNatClampNeg) &&& (g 6 4)) &&& (g 14 a3.toNatClampNeg))] rfl rfl (Nat.le_of_ble_eq_true rfl) dX0_findTaking_31 rfl (Runs.fn ct_X6_lowest (aw_istore [some (.inr 12), some (.inr 6), some (.inl a2), some (.inl a3), some (.inl (lowB (((g 13 a2.toNatClampNeg) &&& (g 6 4)) &&& (g 14 a3.toNatClampNeg))))] dX0_findTaking_34 (by decide) rfl (aw_iload dX0_findTaking_36 rfl (aw_iconst (-1) dX0_findTaking_38 (by decide) (aw_icmp_eq 68 dX0_findTaking_39 (by decide) (fun c2 => (aw_aload_n dX0_findTaking_68 rfl (aw_aload_n dX0_findTaking_69 rfl (aw_iload_n dX0_findTaking_70 rfl (aw_iload_n dX0_findTaking_71 rfl (aw_callVi lkX0_115 ckX0_findOpenBox ca_12 rfl (d := 2) (by decide) [.inr 6, .inl a2, .inl a3] rfl rfl (Nat.le_of_ble_eq_true rfl) dX0_findTaking_72 rfl (Runs.mono ((h.1 c1).2.2.1 c2) (fun r1 g1 h1_ => (aw_istore [some (.inr 12), some (.inr 6), some (.inl a2), some (.inl a3), some (.inl (lowB (((g 13 a2.toNatClampNeg) &&& (g 6 4)) &&& (g 14 a3.toNatClampNeg)))), some (.inl r1)] dX0_findTaking_75 (by decide) rfl (aw_iload dX0_findTaking_77 rfl (aw_iconst (-1) dX0_findTaking_79 (by decide) (aw_icmp_eq 128 dX0_findTaking_80 (by decide) (fun c3 => (aw_aload_n dX0_findTaking_128 rfl (aw_getr 13 fkX0_9 fa_12_0 dX0_findTaking_129 (aw_iload_n dX0_findTaking_132 rfl (aw_iald aa_13 dX0_findTaking_133 (h1_.1 c3).1 (aw_aload_n dX0_findTaking_134 rfl (aw_getr 10 fkX0_122 fa_6_10 dX0_findTaking_135 (aw_iload_n dX0_findTaking_138 rfl (aw_iald aa_10 dX0_findTaking_139 (h1_.1 c3).2.1 (aw_iand dX0_findTaking_140 (aw_callSNi nkX0_102 ckX6_lowest (d := 2) (by decide) [.inl ((g1 13 a2.toNatClampNeg) &&& (g1 10 a3.toNatClampNeg))] rfl rfl (Nat.le_of_ble_eq_true rfl) dX0_findTaking_141 rfl (Runs.fn ct_X6_lowest (aw_istore [some (.inr 12), some (.inr 6), some (.inl a2), some (.inl a3), some (.inl (lowB (((g 13 a2.toNatClampNeg) &&& (g 6 4)) &&& (g 14 a3.toNatClampNeg)))), some (.inl r1), some (.inl (lowB ((g1 13 a2.toNatClampNeg) &&& (g1 10 a3.toNatClampNeg))))] dX0_findTaking_144 (by decide) rfl (aw_iload dX0_findTaking_146 rfl (aw_iconst (-1) dX0_findTaking_148 (by decide) (aw_icmp_eq 173 dX0_findTaking_149 (by decide) (fun c4 => (aw_iconst 0 dX0_findTaking_173 (by decide) (aw_iret rfl (by decide) dX0_findTaking_174 ((h1_.1 c3).2.2.1 c4)))) (fun c4 => (aw_aload_n dX0_findTaking_152 rfl (aw_iload_n dX0_findTaking_153 rfl (aw_iload_n dX0_findTaking_154 rfl (aw_callSNi nkX0_74 ckX6_pair (d := 1) (by decide) [.inl a2, .inl a3] rfl rfl (Nat.le_of_ble_eq_true rfl) dX0_findTaking_155 rfl (Runs.fn ct_X6_pair (aw_iconst 4 dX0_findTaking_158 (by decide) (aw_iload dX0_findTaking_159 rfl (aw_iload_n dX0_findTaking_161 rfl (aw_iload dX0_findTaking_162 rfl (aw_callSNi nkX0_74 ckX6_pair (d := 1) (by decide) [.inl a2, .inl (lowB ((g1 13 a2.toNatClampNeg) &&& (g1 10 a3.toNatClampNeg)))] rfl rfl (Nat.le_of_ble_eq_true rfl) dX0_findTaking_164 rfl (Runs.fn ct_X6_pair (aw_iconst (-1) dX0_findTaking_167 (by decide) (aw_callVv lkX0_105 ckX0_setCause ca_12 rfl (d := 1) (by decide) [.inl (a2 * 10 + a3), .inl 4, .inl (lowB ((g1 13 a2.toNatClampNeg) &&& (g1 10 a3.toNatClampNeg))), .inl (a2 * 10 + (lowB ((g1 13 a2.toNatClampNeg) &&& (g1 10 a3.toNatClampNeg)))), .inl (-1)] rfl rfl (Nat.le_of_ble_eq_true rfl) dX0_findTaking_168 rfl (Runs.mono ((h1_.1 c3).2.2.2 c4) (fun r2 g2 h2_ => (aw_iconst 1 dX0_findTaking_171 (by decide) (aw_iret rfl (by decide) dX0_findTaking_172 h2_)))))))))))))))))))))))))))))))))) (fun c3 => (aw_aload_n dX0_findTaking_83 rfl (aw_getr 13 fkX0_9 fa_12_0 dX0_findTaking_84 (aw_iload_n dX0_findTaking_87 rfl (aw_iald aa_13 dX0_findTaking_88 (h1_.2 c3).1 (aw_aload_n dX0_findTaking_89 rfl (aw_getr 8 fkX0_119 fa_6_8 dX0_findTaking_90 (aw_iload dX0_findTaking_93 rfl (aw_iald aa_8 dX0_findTaking_95 (h1_.2 c3).2.1 (aw_iand dX0_findTaking_96 (aw_callSNi nkX0_102 ckX6_lowest (d := 2) (by decide) [.inl ((g1 13 a2.toNatClampNeg) &&& (g1 8 r1.toNatClampNeg))] rfl rfl (Nat.le_of_ble_eq_true rfl) dX0_findTaking_97 rfl (Runs.fn ct_X6_lowest (aw_istore [some (.inr 12), some (.inr 6), some (.inl a2), some (.inl a3), some (.inl (lowB (((g 13 a2.toNatClampNeg) &&& (g 6 4)) &&& (g 14 a3.toNatClampNeg)))), some (.inl r1), some (.inl (lowB ((g1 13 a2.toNatClampNeg) &&& (g1 8 r1.toNatClampNeg))))] dX0_findTaking_100 (by decide) rfl (aw_aload_n dX0_findTaking_102 rfl (aw_iload_n dX0_findTaking_103 rfl (aw_iload_n dX0_findTaking_104 rfl (aw_callSNi nkX0_74 ckX6_pair (d := 1) (by decide) [.inl a2, .inl a3] rfl rfl (Nat.le_of_ble_eq_true rfl) dX0_findTaking_105 rfl (Runs.fn ct_X6_pair (aw_iconst 3 dX0_findTaking_108 (by decide) (aw_iload dX0_findTaking_109 rfl (aw_iload_n dX0_findTaking_111 rfl (aw_iload dX0_findTaking_112 rfl (aw_callSNi nkX0_74 ckX6_pair (d := 1) (by decide) [.inl a2, .inl r1] rfl rfl (Nat.le_of_ble_eq_true rfl) dX0_findTaking_114 rfl (Runs.fn ct_X6_pair (aw_iload_n dX0_findTaking_117 rfl (aw_iload dX0_findTaking_118 rfl (aw_callSNi nkX0_74 ckX6_pair (d := 1) (by decide) [.inl a2, .inl (lowB ((g1 13 a2.toNatClampNeg) &&& (g1 8 r1.toNatClampNeg)))] rfl rfl (Nat.le_of_ble_eq_true rfl) dX0_findTaking_120 rfl (Runs.fn ct_X6_pair (aw_callVv lkX0_105 ckX0_setCause ca_12 rfl (d := 1) (by decide) [.inl (a2 * 10 + a3), .inl 3, .inl r1, .inl (a2 * 10 + r1), .inl (a2 * 10 + (lowB ((g1 13 a2.toNatClampNeg) &&& (g1 8 r1.toNatClampNeg))))] rfl rfl (Nat.le_of_ble_eq_true rfl) dX0_findTaking_123 rfl (Runs.mono (h1_.2 c3).2.2 (fun r3 g3 h3_ => (aw_iconst 1 dX0_findTaking_126 (by decide) (aw_iret rfl (by decide) dX0_findTaking_127 h3_))))))))))))))))))))))))))))))))))))))))))))) (fun c2 => (aw_aload_n dX0_findTaking_42 rfl (aw_iload_n dX0_findTaking_43 rfl (aw_iload_n dX0_findTaking_44 rfl (aw_callSNi nkX0_74 ckX6_pair (d := 1) (by decide) [.inl a2, .inl a3] rfl rfl (Nat.le_of_ble_eq_true rfl) dX0_findTaking_45 rfl (Runs.fn ct_X6_pair (aw_iconst 2 dX0_findTaking_48 (by decide) (aw_iload dX0_findTaking_49 rfl (aw_iload_n dX0_findTaking_51 rfl (aw_iload dX0_findTaking_52 rfl (aw_callSNi nkX0_74 ckX6_pair (d := 1) (by decide) [.inl a2, .inl (lowB (((g 13 a2.toNatClampNeg) &&& (g 6 4)) &&& (g 14 a3.toNatClampNeg)))] rfl rfl (Nat.le_of_ble_eq_true rfl) dX0_findTaking_54 rfl (Runs.fn ct_X6_pair (aw_iload dX0_findTaking_57 rfl (aw_iload_n dX0_findTaking_59 rfl (aw_callSNi nkX0_74 ckX6_pair (d := 1) (by decide) [.inl (lowB (((g 13 a2.toNatClampNeg) &&& (g 6 4)) &&& (g 14 a3.toNatClampNeg))), .inl a3] rfl rfl (Nat.le_of_ble_eq_true rfl) dX0_findTaking_60 rfl (Runs.fn ct_X6_pair (aw_callVv lkX0_105 ckX0_setCause ca_12 rfl (d := 1) (by decide) [.inl (a2 * 10 + a3), .inl 2, .inl (lowB (((g 13 a2.toNatClampNeg) &&& (g 6 4)) &&& (g 14 a3.toNatClampNeg))), .inl (a2 * 10 + (lowB (((g 13 a2.toNatClampNeg) &&& (g 6 4)) &&& (g 14 a3.toNatClampNeg)))), .inl ((lowB (((g 13 a2.toNatClampNeg) &&& (g 6 4)) &&& (g 14 a3.toNatClampNeg))) * 10 + a3)] rfl rfl (Nat.le_of_ble_eq_true rfl) dX0_findTaking_63 rfl (Runs.mono ((h.1 c1).2.2.2 c2) (fun r4 g4 h4_ => (aw_iconst 1 dX0_findTaking_66 (by decide) (aw_iret rfl (by decide) dX0_findTaking_67 h4_)))))))))))))))))))))))))))))))))))))))) (fun c1 => (aw_iconst 0 dX0_findTaking_11 (by decide) (aw_iret rfl (by decide) dX0_findTaking_12 (h.2 c1))))))))))
theorem ct_X0_findTaking {Γ : Gam} {s : St} {E : Rel} {g : Mem} {a b : Nat} (hw : WF s) (h : Ae s E g) (ha : a < s 0) (hb : b < s 0) : Runs Γ 3 yX0_findTaking iX0_findTaking [.inr 12, .inr 6, .inl (nI a), .inl (nI b)] g (fun v g' => (pt s E 2 a b < s 0 ∧ v = 1 ∧ g' = cau s E 2 a b g) ∨ (¬ pt s E 2 a b < s 0 ∧ pt s E 3 a b < s 0 ∧ v = 1 ∧ g' = cau s E 3 a b g) ∨ (¬ pt s E 2 a b < s 0 ∧ ¬ pt s E 3 a b < s 0 ∧ pt s E 4 a b < s 0 ∧ v = 1 ∧ g' = cau s E 4 a b g) ∨ (¬ pt s E 2 a b < s 0 ∧ ¬ pt s E 3 a b < s 0 ∧ ¬ pt s E 4 a b < s 0 ∧ v = 0 ∧ g' = g)) := by
  have hn := hw.n
  refine Runs.intro (by decide) rfl (Nat.le_of_ble_eq_true rfl) (sg_X0_findTaking_0 _ _ ?_)
  have eL : lowB (((g 13 (nI a).toNatClampNeg) &&& (g 6 4)) &&& (g 14 (nI b).toNatClampNeg)) = fI (-1) (q2 s E a b) (s 0) := by
    rw [ix_nI (by omega), ix_nI (by omega), h.1.2.2.2.2.1, h.2.1 a ha, h.2.2 b hb, fa_and', fa_and']
    refine low_msk hn (fun k => ?_)
    rw [Nat.testBit_and, Nat.testBit_and, msk_bit, msk_bit, msk_bit]
    unfold q2
    by_cases hk : k < s 0
    · rw [decide_eq_true hk]
      cases dz s k 8 <;> cases E a k <;> cases E k b <;> simp
    · rw [decide_eq_false hk]; rfl
  have e10 : g 10 b = nI (msk (pk s b) (s 0)) := (h.1.2.2.2.2.2.2.2 b hb).2.2.2.1
  have eL4 : lowB ((g 13 (nI a).toNatClampNeg) &&& (g 10 (nI b).toNatClampNeg)) = fI (-1) (q4 s E a b) (s 0) := by
    rw [ix_nI (by omega), ix_nI (by omega), h.2.1 a ha, e10, fa_and']
    refine low_msk hn (fun k => ?_)
    rw [Nat.testBit_and, msk_bit, msk_bit]
    unfold q4 pk
    by_cases hk : k < s 0
    · rw [decide_eq_true hk]
      cases kz s k 3 <;> cases E a k <;> simp
    · rw [decide_eq_false hk]; rfl
  rw [eL, h.1.2.2.1, has_msk hn ha]
  refine ⟨fun c => ?_, fun c => Or.inr (Or.inr (Or.inr ⟨pt_off qq2 (bi_eq0.mp c), pt_off qq3 (bi_eq0.mp c), pt_off qq4 (bi_eq0.mp c), rfl, rfl⟩))⟩
  have x2 := pt_on (b := b) (E := E) qq2 (bi_ne0.mp c)
  have x3 := pt_on (b := b) (E := E) qq3 (bi_ne0.mp c)
  have x4 := pt_on (b := b) (E := E) qq4 (bi_ne0.mp c)
  refine ⟨vp_nI (by omega) (by decide), vp_nI (by omega) (by decide), fun c1 => ?_, fun c1 => ?_⟩
  · rw [fI_lt (by omega), ← x2] at c1
    refine Runs.fn (ct_X0_findOpenBox hw h ha hb) ?_
    rw [eL4]
    refine ⟨fun c2 => ⟨vp_nI (by omega) (by decide), vp_nI (by omega) (by decide), fun c3 => ?_, fun c3 => ?_⟩, fun c2 => ?_⟩
    · rw [fI_lt (by omega), ← x3] at c2
      rw [fI_lt (by omega), ← x4] at c3
      exact Or.inr (Or.inr (Or.inr ⟨c1, c2, c3, rfl, rfl⟩))
    · rw [fI_lt (by omega), ← x3] at c2
      rw [fI_lt (by omega), Decidable.not_not] at c3
      rw [fI_at rfl c3, ← x4, pairc, pairc]
      rw [← x4] at c3
      exact (ct_X0_setCause (by omega)).mono (fun _ g1 q => Or.inr (Or.inr (Or.inl ⟨c1, c2, c3, rfl, q⟩)))
    · rw [fI_lt (by omega), Decidable.not_not] at c2
      have y := ff_yes (q3 s E a b) (s 0) 0 (by omega)
      rw [fI_at rfl c2, ← x3]
      rw [← x3] at c2 y
      have y' := y
      unfold q3 at y'
      rw [Bool.and_eq_true, Bool.and_eq_true, Bool.and_eq_true, decide_eq_true_eq, decide_eq_true_eq] at y'
      rw [ix_nI (n := pt s E 3 a b) (by omega), ix_nI (n := a) (by omega), h.2.1 a ha, op_row h.1 c2, fa_and', low_msk hn (op_bits y'.1), fI_at rfl y'.2.2.2, pairc, pairc, pairc]
      refine ⟨vp_nI (by omega) (by decide), vp_nI (by omega) (by decide), ?_⟩
      refine (ct_X0_setCause (by omega)).mono (fun _ g1 q => Or.inr (Or.inl ⟨c1, c2, rfl, ?_⟩))
      rw [q]
      unfold cau
      rw [p2i_of (show p2 s E 3 a b = 10 * a + ff (qk s E a (s (11 + pt s E 3 a b))) 0 (s 0) from rfl) (by omega)]
      rfl
  · rw [fI_lt (by omega), Decidable.not_not] at c1
    rw [fI_at rfl c1, ← x2, pairc, pairc, pairc]
    rw [← x2] at c1
    refine (ct_X0_setCause (by omega)).mono (fun _ g1 q => Or.inl ⟨c1, rfl, ?_⟩)
    rw [q]
    unfold cau
    rw [p2i_of (show p2 s E 2 a b = 10 * pt s E 2 a b + b from rfl) (by omega)]
    rfl
theorem sg_X0_findEndowment_0 {Γ : Gam} {P : Int32 → Mem → Prop}  (a2 a3 : Int32) {g : Mem} (h : (vp_in a2 10 ∧ (vp_in a3 10 ∧ AW Γ 3 iX0_findEndowment P 18 [some (.inr 12), some (.inr 6), some (.inl a2), some (.inl a3), some (.inl ((g 10 a2.toNatClampNeg) &&& (g 14 a3.toNatClampNeg))), some (.inl 0)] [] g))) : AW Γ 3 iX0_findEndowment P 0 [some (.inr 12), some (.inr 6), some (.inl a2), some (.inl a3)] [] g :=
  (aw_aload_n dX0_findEndowment_0 rfl (aw_getr 10 fkX0_122 fa_6_10 dX0_findEndowment_1 (aw_iload_n dX0_findEndowment_4 rfl (aw_iald aa_10 dX0_findEndowment_5 h.1 (aw_aload_n dX0_findEndowment_6 rfl (aw_getr 14 fkX0_15 fa_12_1 dX0_findEndowment_7 (aw_iload_n dX0_findEndowment_10 rfl (aw_iald aa_14 dX0_findEndowment_11 h.2.1 (aw_iand dX0_findEndowment_12 (aw_istore [some (.inr 12), some (.inr 6), some (.inl a2), some (.inl a3), some (.inl ((g 10 a2.toNatClampNeg) &&& (g 14 a3.toNatClampNeg)))] dX0_findEndowment_13 (by decide) rfl (aw_iconst 0 dX0_findEndowment_15 (by decide) (aw_istore [some (.inr 12), some (.inr 6), some (.inl a2), some (.inl a3), some (.inl ((g 10 a2.toNatClampNeg) &&& (g 14 a3.toNatClampNeg))), some (.inl 0)] dX0_findEndowment_16 (by decide) rfl (aw_mask [true, true, true, true, true, true] rfl h.2.2)))))))))))))
theorem sg_X0_findEndowment_18 {Γ : Gam} {P : Int32 → Mem → Prop}  (a2 a3 a4 a5 : Int32) {g : Mem} (h : (((g 6 0) ≤ a5 → P 0 g) ∧ (¬ ((g 6 0) ≤ a5) → ((¬ (bi (hasB a4 a5)) = 0 → (vp_in a5 10 ∧ (((lowB ((g 14 a5.toNatClampNeg) &&& (g 6 2))) = (-1) → AW Γ 3 iX0_findEndowment P 18 [some (.inr 12), some (.inr 6), some (.inl a2), some (.inl a3), some (.inl a4), some (.inl (a5 + 1))] [] g) ∧ (¬ (lowB ((g 14 a5.toNatClampNeg) &&& (g 6 2))) = (-1) → (Runs Γ 1 yX0_setCause iX0_setCause [.inr 12, .inl (a2 * 10 + a3), .inl 5, .inl a5, .inl (a5 * 10 + a3), .inl ((lowB ((g 14 a5.toNatClampNeg) &&& (g 6 2))) * 10 + a5)] g (fun r1 g1 => P 1 g1)))))) ∧ ((bi (hasB a4 a5)) = 0 → AW Γ 3 iX0_findEndowment P 18 [some (.inr 12), some (.inr 6), some (.inl a2), some (.inl a3), some (.inl a4), some (.inl (a5 + 1))] [] g))))) : AW Γ 3 iX0_findEndowment P 18 [some (.inr 12), some (.inr 6), some (.inl a2), some (.inl a3), some (.inl a4), some (.inl a5)] [] g :=
  (aw_iload dX0_findEndowment_18 rfl (aw_aload_n dX0_findEndowment_20 rfl (aw_geti fkX0_57 fa_6_0 dX0_findEndowment_21 (aw_icmp_ge 96 dX0_findEndowment_24 (by decide) (fun c1 => (aw_iconst 0 dX0_findEndowment_96 (by decide) (aw_iret rfl (by decide) dX0_findEndowment_97 (h.1 c1)))) (fun c1 => (aw_iload dX0_findEndowment_27 rfl (aw_iload dX0_findEndowment_29 rfl (aw_callSNi nkX0_70 ckX6_contains (d := 1) (by decide) [.inl a4, .inl a5] rfl rfl (Nat.le_of_ble_eq_true rfl) dX0_findEndowment_31 rfl (Runs.fn ct_X6_contains (aw_if_ne 40 dX0_findEndowment_34 (by decide) (fun c2 => (aw_aload_n dX0_findEndowment_40 rfl (aw_getr 14 fkX0_15 fa_12_1 dX0_findEndowment_41 (aw_iload dX0_findEndowment_44 rfl (aw_iald aa_14 dX0_findEndowment_46 ((h.2 c1).1 c2).1 (aw_aload_n dX0_findEndowment_47 rfl (aw_geti fkX0_109 fa_6_2 dX0_findEndowment_48 (aw_iand dX0_findEndowment_51 (aw_callSNi nkX0_102 ckX6_lowest (d := 2) (by decide) [.inl ((g 14 a5.toNatClampNeg) &&& (g 6 2))] rfl rfl (Nat.le_of_ble_eq_true rfl) dX0_findEndowment_52 rfl (Runs.fn ct_X6_lowest (aw_istore [some (.inr 12), some (.inr 6), some (.inl a2), some (.inl a3), some (.inl a4), some (.inl a5), some (.inl (lowB ((g 14 a5.toNatClampNeg) &&& (g 6 2))))] dX0_findEndowment_55 (by decide) rfl (aw_iload dX0_findEndowment_57 rfl (aw_iconst (-1) dX0_findEndowment_59 (by decide) (aw_icmp_eq 90 dX0_findEndowment_60 (by decide) (fun c3 => (aw_iinc (a5 + 1) [some (.inr 12), some (.inr 6), some (.inl a2), some (.inl a3), some (.inl a4), some (.inl (a5 + 1)), some (.inl (lowB ((g 14 a5.toNatClampNeg) &&& (g 6 2))))] dX0_findEndowment_90 rfl (by rfl) (by decide) rfl (aw_goto 18 dX0_findEndowment_93 (by decide) (aw_mask [true, true, true, true, true, true] rfl (((h.2 c1).1 c2).2.1 c3))))) (fun c3 => (aw_aload_n dX0_findEndowment_63 rfl (aw_iload_n dX0_findEndowment_64 rfl (aw_iload_n dX0_findEndowment_65 rfl (aw_callSNi nkX0_74 ckX6_pair (d := 1) (by decide) [.inl a2, .inl a3] rfl rfl (Nat.le_of_ble_eq_true rfl) dX0_findEndowment_66 rfl (Runs.fn ct_X6_pair (aw_iconst 5 dX0_findEndowment_69 (by decide) (aw_iload dX0_findEndowment_70 rfl (aw_iload dX0_findEndowment_72 rfl (aw_iload_n dX0_findEndowment_74 rfl (aw_callSNi nkX0_74 ckX6_pair (d := 1) (by decide) [.inl a5, .inl a3] rfl rfl (Nat.le_of_ble_eq_true rfl) dX0_findEndowment_75 rfl (Runs.fn ct_X6_pair (aw_iload dX0_findEndowment_78 rfl (aw_iload dX0_findEndowment_80 rfl (aw_callSNi nkX0_74 ckX6_pair (d := 1) (by decide) [.inl (lowB ((g 14 a5.toNatClampNeg) &&& (g 6 2))), .inl a5] rfl rfl (Nat.le_of_ble_eq_true rfl) dX0_findEndowment_82 rfl (Runs.fn ct_X6_pair (aw_callVv lkX0_105 ckX0_setCause ca_12 rfl (d := 1) (by decide) [.inl (a2 * 10 + a3), .inl 5, .inl a5, .inl (a5 * 10 + a3), .inl ((lowB ((g 14 a5.toNatClampNeg) &&& (g 6 2))) * 10 + a5)] rfl rfl (Nat.le_of_ble_eq_true rfl) dX0_findEndowment_85 rfl (Runs.mono (((h.2 c1).1 c2).2.2 c3) (fun r1 g1 h1_ => (aw_iconst 1 dX0_findEndowment_88 (by decide) (aw_iret rfl (by decide) dX0_findEndowment_89 h1_))))))))))))))))))))))))))))))))))) (fun c2 => (aw_goto 90 dX0_findEndowment_37 (by decide) (aw_iinc (a5 + 1) [some (.inr 12), some (.inr 6), some (.inl a2), some (.inl a3), some (.inl a4), some (.inl (a5 + 1))] dX0_findEndowment_90 rfl (by rfl) (by decide) rfl (aw_goto 18 dX0_findEndowment_93 (by decide) (aw_mask [true, true, true, true, true, true] rfl ((h.2 c1).2 c2))))))))))))))))
theorem lp_X0_endow {Γ : Gam} {P : Int32 → Mem → Prop} {s : St} {E : Rel} {g : Mem} {a b w : Nat} (hw : WF s) (h : Ae s E g) (ha : a < s 0) (hb : b < s 0) (ew : ∀ k, k < s 0 → hasB (nI w) (nI k) = (kz s k 3 && (decide (s (11 + k) = a) && E k b))) (hP : pt s E 5 a b < s 0 → P 1 (cau s E 5 a b g)) (hN : ¬ pt s E 5 a b < s 0 → P 0 g) : ∀ n k, k + n = s 0 → ff (q5 s E a b) 0 (s 0) = ff (q5 s E a b) k n → AW Γ 3 iX0_findEndowment P 18 [some (.inr 12), some (.inr 6), some (.inl (nI a)), some (.inl (nI b)), some (.inl (nI w)), some (.inl (nI k))] [] g := by
  intro n
  have hn := hw.n
  have x5 := pt_on (s := s) (a := a) (b := b) (E := E) qq5 rfl
  induction n with
  | zero =>
    intro k hk e
    refine sg_X0_findEndowment_18 _ _ _ _ ?_
    rw [h.1.1]
    refine ⟨fun _ => hN ?_, fun c => absurd (nI_le (by omega) (by omega)) c⟩
    rw [ff] at e
    omega
  | succ n ih =>
    intro k hk e
    have hks : k < s 0 := by omega
    refine sg_X0_findEndowment_18 _ _ _ _ ?_
    have no : q5 s E a b k = false → AW Γ 3 iX0_findEndowment P 18 [some (.inr 12), some (.inr 6), some (.inl (nI a)), some (.inl (nI b)), some (.inl (nI w)), some (.inl (nI (k + 1)))] [] g := fun q => ih (k + 1) (by omega) (by rw [e, ff_F q])
    have eL : lowB ((g 14 (nI k).toNatClampNeg) &&& (g 6 2)) = fI (-1) (qu s E k) (s 0) := by
      rw [ix_nI (by omega), h.2.2 k hks, h.1.2.2.1, fa_and']
      refine low_msk hn (fun j => ?_)
      rw [Nat.testBit_and, msk_bit, msk_bit]
      unfold qu
      by_cases hj : j < s 0
      · rw [decide_eq_true hj]
        cases dz s j 2 <;> cases E j k <;> simp
      · rw [decide_eq_false hj]; rfl
    rw [eL, h.1.1, ew k hks, nI_1]
    refine ⟨fun c => absurd c (nI_ge (by omega) (by omega)), fun _ => ⟨fun c => ?_, fun c => ?_⟩⟩
    · rw [bi_ne0, Bool.and_eq_true, Bool.and_eq_true] at c
      refine ⟨vp_nI (by omega) (by decide), fun c2 => no ?_, fun c2 => ?_⟩
      · rw [fI_lt (by omega)] at c2
        unfold q5
        rw [decide_eq_false c2]
        simp
      · rw [fI_lt (by omega), Decidable.not_not] at c2
        have q : q5 s E a b k = true := by
          unfold q5
          rw [c.1, c.2.1, c.2.2, decide_eq_true c2]; rfl
        rw [ff_T q, ← x5] at e
        rw [fI_at rfl c2, pairc, pairc, pairc]
        have hp := hP (by omega)
        refine (ct_X0_setCause (by omega)).mono (fun _ g1 q => ?_)
        rw [q]
        unfold cau at hp
        rw [p2i_of (show p2 s E 5 a b = 10 * ff (qu s E (pt s E 5 a b)) 0 (s 0) + pt s E 5 a b from rfl) (by rw [e]; omega), show p1 s E 5 a b = 10 * pt s E 5 a b + b from rfl, e] at hp
        exact hp
    · rw [bi_eq0] at c
      refine no ?_
      unfold q5
      revert c
      cases kz s k 3 <;> cases E k b <;> simp
      intro e1 e2; exact absurd e2 e1
theorem ct_X0_findEndowment {Γ : Gam} {s : St} {E : Rel} {g : Mem} {a b : Nat} (hw : WF s) (h : Ae s E g) (ha : a < s 0) (hb : b < s 0) : Runs Γ 3 yX0_findEndowment iX0_findEndowment [.inr 12, .inr 6, .inl (nI a), .inl (nI b)] g (fun v g' => (pt s E 5 a b < s 0 ∧ v = 1 ∧ g' = cau s E 5 a b g) ∨ (¬ pt s E 5 a b < s 0 ∧ v = 0 ∧ g' = g)) := by
  have hn := hw.n
  refine Runs.intro (by decide) rfl (Nat.le_of_ble_eq_true rfl) (sg_X0_findEndowment_0 _ _ ?_)
  have e10 : g 10 a = nI (msk (pk s a) (s 0)) := (h.1.2.2.2.2.2.2.2 a ha).2.2.2.1
  rw [ix_nI (by omega), ix_nI (by omega), h.2.2 b hb, e10, fa_and']
  refine ⟨vp_nI (by omega) (by decide), vp_nI (by omega) (by decide), lp_X0_endow hw h ha hb (fun k hk => ?_) (fun c => Or.inl ⟨c, rfl, rfl⟩) (fun c => Or.inr ⟨c, rfl, rfl⟩) (s 0) 0 (by omega) rfl⟩
  have l1 := msk_lt' (pk s a) hn
  rw [hasB_nI (by have := and_lt (b := msk (fun x => E x b) (s 0)) l1; omega) (by omega), Nat.testBit_and, msk_bit, msk_bit, decide_eq_true hk]
  unfold pk
  cases E k b <;> cases kz s k 3 <;> simp
