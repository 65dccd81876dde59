/-! The class's Closure, whole; the analysis is brought up to date. -/
theorem FF_cl5 {s : St} {E : Rel} (h : ∀ x, x < s 0 → ∀ y, y < s 0 → E x y = true → FF s E x y) : cl5 s E := by
  intro a b ha hb hd
  obtain ⟨r, x, r1, r6, hx, q⟩ := der_iff.mp hd
  have hr : r = 1 ∨ r = 2 ∨ r = 3 ∨ r = 4 ∨ r = 5 := by omega
  rcases hr with rfl | rfl | rfl | rfl | rfl
  · rw [qq1] at q
    unfold q1 at q
    rw [Bool.and_eq_true, Bool.and_eq_true, Bool.and_eq_true, Bool.or_eq_true, decide_eq_true_eq] at q
    obtain ⟨c1, c2, c3, c4⟩ := q
    exact (h x hx a ha c3).1 c2 c1 b hb (c4.symm.imp id (fun e => e.symm))
  · rw [qq2] at q
    unfold q2 at q
    rw [Bool.and_eq_true, Bool.and_eq_true, Bool.and_eq_true] at q
    obtain ⟨c1, c2, c3, c4⟩ := q
    exact ((h a ha x hx c3).2 c1).1 c2 b hb c4
  · rw [qq3] at q
    unfold q3 at q
    rw [Bool.and_eq_true, Bool.and_eq_true, Bool.and_eq_true, Bool.and_eq_true, decide_eq_true_eq, decide_eq_true_eq] at q
    obtain ⟨c1, c2, c3, c4, c5⟩ := q
    have := ((h a ha x hx c4).2 c1).2.1 c2 c5
    rw [c3] at this
    exact this
  · rw [qq4] at q
    unfold q4 at q
    rw [Bool.and_eq_true, Bool.and_eq_true, Bool.and_eq_true, decide_eq_true_eq] at q
    obtain ⟨c1, c2, c3, c4⟩ := q
    have := (((h a ha x hx c4).2 c1).2.2 c2).1
    rw [c3] at this
    exact this
  · rw [qq5, Bool.true_and] at q
    unfold q5 at q
    rw [Bool.and_eq_true, Bool.and_eq_true, Bool.and_eq_true, decide_eq_true_eq, decide_eq_true_eq] at q
    obtain ⟨c1, c2, c3, c4⟩ := q
    have y1 := ff_yes (qu s E x) (s 0) 0 (by omega)
    generalize ff (qu s E x) 0 (s 0) = u at c4 y1
    unfold qu at y1
    rw [Bool.and_eq_true] at y1
    have := (((h u c4 x hx y1.2).2 y1.1).2.2 c1).2 b hb c3
    rw [c2] at this
    exact this
def ClM (s : St) (m : Bool) (G : Rel) : Prop := cl5 s G ∧ (m = true → cl6 s G)
theorem sg_X1_close_0 {Γ : Gam} {P : Int32 → Mem → Prop} (b : Nat) (hb : isCl b) (a2 : Int32) {g : Mem} (h : AW Γ 4 iX1_close P 7 [some (.inr b), some (.inr 6), some (.inl a2), some (.inl 0)] [] (up g b 1 1)) : AW Γ 4 iX1_close P 0 [some (.inr b), some (.inr 6), some (.inl a2)] [] g :=
  (aw_aload_n dX1_close_0 rfl (aw_iconst 1 dX1_close_1 (by decide) (aw_putf fpX1_15 (fc_1 hb) (by decide) (by decide) dX1_close_2 (aw_iconst 0 dX1_close_5 (by decide) (aw_istore_n [some (.inr b), some (.inr 6), some (.inl a2), some (.inl 0)] dX1_close_6 (by decide) rfl (aw_mask [true, true, true, true] rfl h))))))
theorem sg_X1_close_7 {Γ : Gam} {P : Int32 → Mem → Prop} (b : Nat) (hb : isCl b) (a2 a3 : Int32) {g : Mem} (h : ((100 < a3 → P 0 g) ∧ (¬ (100 < a3) → (((g b 1) = 0 → P 0 g) ∧ (¬ (g b 1) = 0 → AW Γ 4 iX1_close P 28 [some (.inr b), some (.inr 6), some (.inl a2), some (.inl a3), some (.inl 0)] [] (up g b 1 0)))))) : AW Γ 4 iX1_close P 7 [some (.inr b), some (.inr 6), some (.inl a2), some (.inl a3)] [] g :=
  (aw_iload_n dX1_close_7 rfl (aw_bipush 100 dX1_close_8 (by decide) (aw_icmp_gt 67 dX1_close_10 (by decide) (fun c1 => (aw_vret rfl dX1_close_67 (h.1 c1))) (fun c1 => (aw_aload_n dX1_close_13 rfl (aw_geti fkX1_15 (fc_1 hb) dX1_close_14 (aw_if_eq 67 dX1_close_17 (by decide) (fun c2 => (aw_vret rfl dX1_close_67 ((h.2 c1).1 c2))) (fun c2 => (aw_aload_n dX1_close_20 rfl (aw_iconst 0 dX1_close_21 (by decide) (aw_putf fpX1_15 (fc_1 hb) (by decide) (by decide) dX1_close_22 (aw_iconst 0 dX1_close_25 (by decide) (aw_istore [some (.inr b), some (.inr 6), some (.inl a2), some (.inl a3), some (.inl 0)] dX1_close_26 (by decide) rfl (aw_mask [true, true, true, true, true] rfl ((h.2 c1).2 c2)))))))))))))))
theorem sg_X1_close_28 {Γ : Gam} {P : Int32 → Mem → Prop} (b : Nat) (hb : isCl b) (a2 a3 a4 : Int32) {g : Mem} (h : (((g 6 0) ≤ a4 → AW Γ 4 iX1_close P 7 [some (.inr b), some (.inr 6), some (.inl a2), some (.inl (a3 + 1))] [] g) ∧ (¬ ((g 6 0) ≤ a4) → (Runs Γ 3 yX1_applyRules iX1_applyRules [.inr b, .inr 6, .inl a4] g (fun r1 g1 => ((a2 = 0 → AW Γ 4 iX1_close P 28 [some (.inr b), some (.inr 6), some (.inl a2), some (.inl a3), some (.inl (a4 + 1))] [] g1) ∧ (¬ a2 = 0 → (Runs Γ 2 yX1_merge iX1_merge [.inr b, .inr 6, .inl a4] g1 (fun r2 g2 => AW Γ 4 iX1_close P 28 [some (.inr b), some (.inr 6), some (.inl a2), some (.inl a3), some (.inl (a4 + 1))] [] g2))))))))) : AW Γ 4 iX1_close P 28 [some (.inr b), some (.inr 6), some (.inl a2), some (.inl a3), some (.inl a4)] [] g :=
  (aw_iload dX1_close_28 rfl (aw_aload_n dX1_close_30 rfl (aw_geti fkX1_25 fa_6_0 dX1_close_31 (aw_icmp_ge 61 dX1_close_34 (by decide) (fun c1 => (aw_iinc (a3 + 1) [some (.inr b), some (.inr 6), some (.inl a2), some (.inl (a3 + 1)), some (.inl a4)] dX1_close_61 rfl (by rfl) (by decide) rfl (aw_goto 7 dX1_close_64 (by decide) (aw_mask [true, true, true, true] rfl (h.1 c1))))) (fun c1 => (aw_aload_n dX1_close_37 rfl (aw_aload_n dX1_close_38 rfl (aw_iload dX1_close_39 rfl (aw_callVv lkX1_31 ckX1_applyRules (cc_ hb) rfl (d := 3) (by decide) [.inr 6, .inl a4] rfl rfl (Nat.le_of_ble_eq_true rfl) dX1_close_41 rfl (Runs.mono (h.2 c1) (fun r1 g1 h1_ => (aw_iload_n dX1_close_44 rfl (aw_if_eq 55 dX1_close_45 (by decide) (fun c2 => (aw_iinc (a4 + 1) [some (.inr b), some (.inr 6), some (.inl a2), some (.inl a3), some (.inl (a4 + 1))] dX1_close_55 rfl (by rfl) (by decide) rfl (aw_goto 28 dX1_close_58 (by decide) (aw_mask [true, true, true, true, true] rfl (h1_.1 c2))))) (fun c2 => (aw_aload_n dX1_close_48 rfl (aw_aload_n dX1_close_49 rfl (aw_iload dX1_close_50 rfl (aw_callVv lkX1_35 ckX1_merge (cc_ hb) rfl (d := 2) (by decide) [.inr 6, .inl a4] rfl rfl (Nat.le_of_ble_eq_true rfl) dX1_close_52 rfl (Runs.mono (h1_.2 c2) (fun r2 g2 h2_ => (aw_iinc (a4 + 1) [some (.inr b), some (.inr 6), some (.inl a2), some (.inl a3), some (.inl (a4 + 1))] dX1_close_55 rfl (by rfl) (by decide) rfl (aw_goto 28 dX1_close_58 (by decide) (aw_mask [true, true, true, true, true] rfl h2_)))))))))))))))))))))))
theorem lp_X1_cl28 {Γ : Gam} {P : Int32 → Mem → Prop} {s : St} {b : Nat} {E0 : Rel} {g0 : Mem} {m : Bool} {p : Int32} (hb : isCl b) (hw : WF s) (hR : RolesOk s g0) (hP : ∀ E' f' g', Tr (ClM s m) s b E0 false g0 E' f' g' → (f' = false → ClM s m E0) → AW Γ 4 iX1_close P 7 [some (.inr b), some (.inr 6), some (.inl (bi m)), some (.inl (p + 1))] [] g') : ∀ n x E f g, x + n = s 0 → Tr (ClM s m) s b E0 false g0 E f g → (f = false → ∀ x', x' < x → (∀ y, y < s 0 → E0 x' y = true → FF s E0 x' y) ∧ (m = true → F6 s E0 x')) → AW Γ 4 iX1_close P 28 [some (.inr b), some (.inr 6), some (.inl (bi m)), some (.inl p), some (.inl (nI x))] [] g := by
  intro n
  have hn := hw.n
  induction n with
  | zero =>
    intro x E f g hx t w
    refine sg_X1_close_28 b hb _ _ _ ?_
    rw [(hR.tr hb t).1]
    rw [show x = s 0 by omega] at w ⊢
    refine ⟨fun _ => hP E f g t (fun e => ⟨FF_cl5 (fun x' hx' => (w e x' hx').1), fun em => ?_⟩), fun c => absurd (nI_le (by omega) (by omega)) c⟩
    intro x' y a z hx' hy ha hz' e1 e2 e3 e4
    exact (w e x' hx').2 em y a z hy ha hz' e1 e2 e3 e4
  | succ n ih =>
    intro x E f g hx t w
    have hxs : x < s 0 := by omega
    have hR1 := hR.tr hb t
    refine sg_X1_close_28 b hb _ _ _ ?_
    rw [hR1.1, nI_1]
    refine ⟨fun c => absurd c (nI_ge (by omega) (by omega)), fun _ => ?_⟩
    refine (ct_X1_applyRules (Cl := ClM s m) hb hw (fun G hG => hG.1) hR1 t.2.1 hxs).mono (fun _ g1 q => ?_)
    obtain ⟨E1, f1, t1, w1⟩ := q
    refine ⟨fun c => ?_, fun c => ?_⟩
    · refine ih (x + 1) E1 f1 g1 (by omega) (t.trans t1) (fun e x' hx' => ?_)
      obtain ⟨a1, a2⟩ := t1.still e
      obtain ⟨a3, a4⟩ := t.still a1
      have w2 := w1 e
      rw [a4] at w2
      by_cases q : x' = x
      · subst q
        exact ⟨w2, fun em => by rw [bi_eq0.mp c] at em; cases em⟩
      · exact w a1 x' (by omega)
    · have em := bi_ne0.mp c
      refine (ct_X1_merge (Cl := ClM s m) hb hw (fun G hG => hG.2 em) (hR1.tr hb t1) t1.2.1 hxs).mono (fun _ g2 q2 => ?_)
      obtain ⟨E2, f2, t2, w2⟩ := q2
      refine ih (x + 1) E2 f2 g2 (by omega) ((t.trans t1).trans t2) (fun e x' hx' => ?_)
      obtain ⟨a5, a6⟩ := t2.still e
      obtain ⟨a1, a2⟩ := t1.still a5
      obtain ⟨a3, a4⟩ := t.still a1
      have w3 := w1 a5
      have w4 := w2 e
      rw [a2] at w4
      rw [a4] at w3 w4
      by_cases q : x' = x
      · subst q
        exact ⟨w3, fun _ => w4⟩
      · exact w a1 x' (by omega)
theorem lp_X1_cl7 {Γ : Gam} {P : Int32 → Mem → Prop} {s : St} {b : Nat} {E0 : Rel} {g0 : Mem} {m : Bool} (hb : isCl b) (hw : WF s) (hR : RolesOk s g0) (hP : ∀ E g, (∀ k, k ≠ b → k ≠ b + 1 → g k = g0 k) → (∀ a, a < s 0 → g (b + 1) a = nI (msk (E a) (s 0))) → (∀ x y, E x y = true → x < s 0 ∧ y < s 0) → Sb E0 E → (∀ G, ClM s m G → Sb E0 G → Sb E G) → ClM s m E → P 0 g) : ∀ n p E f g, p + n = 101 → (∀ k, k ≠ b → k ≠ b + 1 → g k = g0 k) → KR s b E f g → Sb E0 E → (∀ G, ClM s m G → Sb E0 G → Sb E G) → (f = true → p ≤ crd E) → (f = false → ClM s m E) → AW Γ 4 iX1_close P 7 [some (.inr b), some (.inr 6), some (.inl (bi m)), some (.inl (nI p))] [] g := by
  intro n
  have hn := hw.n
  induction n with
  | zero =>
    intro p E f g hp hf hK h1 h2 h3 h4
    have hc := crd_le E
    have e : f = false := by
      cases f with
      | false => rfl
      | true => have := h3 rfl; omega
    refine sg_X1_close_7 b hb _ _ ⟨fun _ => hP E g hf hK.1 hK.2.2 h1 h2 (h4 e), fun c => ?_⟩
    exfalso
    apply c
    rw [show (100 : Int32) = nI 100 from rfl, nI_ltI (by decide) (by omega)]
    omega
  | succ n ih =>
    intro p E f g hp hf hK h1 h2 h3 h4
    refine sg_X1_close_7 b hb _ _ ⟨fun c => ?_, fun _ => ⟨fun c => ?_, fun c => ?_⟩⟩
    · rw [show (100 : Int32) = nI 100 from rfl, nI_ltI (by decide) (by omega)] at c
      omega
    · rw [hK.2.1, bi_eq0] at c
      exact hP E g hf hK.1 hK.2.2 h1 h2 (h4 c)
    · rw [hK.2.1, bi_ne0] at c
      have hf1 : ∀ k, k ≠ b → k ≠ b + 1 → up g b 1 0 k = g0 k := fun k k1 k2 => by rw [up_ne k1, hf k k1 k2]
      have hK1 : KR s b E false (up g b 1 0) := ⟨fun a ha => by rw [up_ne (by omega)]; exact hK.1 a ha, up_at _ _ _ _, hK.2.2⟩
      have hb9 := hb.lt
      refine lp_X1_cl28 (E0 := E) (m := m) hb hw (hR.ext (fun k k1 k2 => hf1 k (by omega) (by omega))) (fun E1 f1 g1 t1 w1 => ?_) (s 0) 0 E false _ (by omega) (Tr.rf hK1) (fun _ x' hx' => absurd hx' (Nat.not_lt_zero _))
      rw [nI_1]
      refine ih (p + 1) E1 f1 g1 (by omega) (fun k k1 k2 => by rw [t1.1 k k1 k2, hf1 k k1 k2]) t1.2.1 (fun x y e => t1.2.2.1 x y (h1 x y e)) (fun G hG e => t1.2.2.2.1 G hG (h2 G hG e)) (fun e => ?_) (fun e => ?_)
      · have h5 := h3 c
        rcases t1.2.2.2.2 with ⟨a1, a2⟩ | ⟨a1, a2 | a2⟩
        · rw [a1] at e; cases e
        · cases a2
        · omega
      · rw [(t1.still e).2]
        exact w1 e
theorem ini_row {s : St} (hw : WF s) (rem a : Nat) : rowsK s rem (s 41) a = msk (ini s rem a) (s 0) := by
  refine msk_eq (fun j => ?_)
  show ini s rem a j = _
  by_cases hj : j < s 0
  · rw [decide_eq_true hj]; rfl
  · rw [decide_eq_false hj]
    cases e : ini s rem a j with
    | false => rfl
    | true => exact absurd (ini_in hw e).2 hj
theorem sg_X1_start_0 {Γ : Gam} {P : Int32 → Mem → Prop} (b : Nat) (hb : isCl b) (a2 : Int32) {g : Mem} (h : (Runs Γ 2 yX4_fillInitialRows iX4_fillInitialRows [.inr 34, .inr (b + 1), .inl a2] g (fun r1 g1 => P 0 g1))) : AW Γ 3 iX1_start P 0 [some (.inr b), some (.inr 34), some (.inl a2)] [] g :=
  (aw_aload_n dX1_start_0 rfl (aw_aload_n dX1_start_1 rfl (aw_getr (b + 1) fkX1_9 (fc_0 hb) dX1_start_2 (aw_iload_n dX1_start_5 rfl (aw_callVv lkX1_19 ckX4_fillInitialRows (cs_ isSt_34) rfl (d := 2) (by decide) [.inr (b + 1), .inl a2] rfl rfl (Nat.le_of_ble_eq_true rfl) dX1_start_6 rfl (Runs.mono h (fun r1 g1 h1_ => (aw_vret rfl dX1_start_9 h1_))))))))
theorem ct_X1_start {Γ : Gam} {s : St} {b : Nat} {g : Mem} {rem : Nat} (hb : isCl b) (h : CW 34 s g) (hrem : rem < 2 ^ 31) : Runs Γ 3 yX1_start iX1_start [.inr b, .inr 34, .inl (nI rem)] g (fun _ g' => (∀ k, k ≠ b + 1 → g' k = g k) ∧ ∀ a, a < s 0 → g' (b + 1) a = nI (msk (ini s rem a) (s 0))) := by
  have hn := h.2.n
  have hb9 := hb.lt
  refine Runs.intro (by decide) rfl (Nat.le_of_ble_eq_true rfl) (sg_X1_start_0 b hb _ ?_)
  refine (ct_X4_fillInitialRows (b := 34) (q := b + 1) (rem := rem) isSt_34 (ac_1 hb) (by omega) (by omega) (by omega) h hrem).mono (fun _ g1 q => ⟨q.1, fun a ha => ?_⟩)
  rw [q.2 a (by omega), ini_row h.2]
theorem ct_X1_close {Γ : Gam} {s : St} {b : Nat} {g : Mem} {rem : Nat} {m : Bool} (hb : isCl b) (hw : WF s) (hR : RolesOk s g) (hr : ∀ a, a < s 0 → g (b + 1) a = nI (msk (ini s rem a) (s 0))) : Runs Γ 4 yX1_close iX1_close [.inr b, .inr 6, .inl (bi m)] g (fun _ g' => (∀ k, k ≠ b → k ≠ b + 1 → g' k = g k) ∧ ∃ E, (∀ a, a < s 0 → g' (b + 1) a = nI (msk (E a) (s 0))) ∧ (∀ x y, E x y = true → x < s 0 ∧ y < s 0) ∧ Sb (ini s rem) E ∧ (∀ G, ClM s m G → Sb (ini s rem) G → Sb E G) ∧ ClM s m E) := by
  refine Runs.intro (by decide) rfl (Nat.le_of_ble_eq_true rfl) (sg_X1_close_0 b hb _ ?_)
  refine lp_X1_cl7 (E0 := ini s rem) (g0 := g) (m := m) hb hw hR (fun E g1 f1 f2 f3 f4 f5 f6 => ⟨f1, E, f2, f3, f4, f5, f6⟩) 101 0 (ini s rem) true _ rfl (fun k k1 k2 => up_ne k1) ⟨fun a ha => by rw [up_ne (by omega)]; exact hr a ha, up_at _ _ _ _, fun x y e => ini_in hw e⟩ (fun _ _ e => e) (fun _ _ e => e) (fun _ => Nat.zero_le _) (fun e => Bool.noConfusion e)
/-- the Closure without merging is what is found -/
theorem clo_fnd {s : St} (hw : WF s) {rem : Nat} {E : Rel} (h1 : Sb (ini s rem) E) (h2 : ∀ G, ClM s false G → Sb (ini s rem) G → Sb E G) (h3 : ClM s false E) (a b : Nat) : E a b = fnd s rem a b := by
  rw [Bool.eq_iff_iff]
  exact ⟨h2 (fnd s rem) ⟨fnd_cl5 hw rem, fun e => Bool.noConfusion e⟩ (fun x y e => ini_fnd e) a b, fun e => fnd_least h1 h3.1 e⟩
theorem sg_X6_refreshAnalysis_0 {Γ : Gam} {P : Int32 → Mem → Prop}  {g : Mem} (h : (((g 0 8) = 0 → (Runs Γ 5 yX3_readFrom iX3_readFrom [.inr 6, .inr 34] g (fun r1 g1 => (Runs Γ 5 yX0_findAll iX0_findAll [.inr 12, .inr 6, .inr 34] g1 (fun r2 g2 => (Runs Γ 3 yX1_start iX1_start [.inr 22, .inr 34, .inl 0] g2 (fun r3 g3 => (Runs Γ 4 yX1_close iX1_close [.inr 22, .inr 6, .inl 1] g3 (fun r4 g4 => P 0 (up g4 0 8 1)))))))))) ∧ (¬ (g 0 8) = 0 → P 0 g))) : AW Γ 6 iX6_refreshAnalysis P 0 [some (.inr 0)] [] g :=
  (aw_aload_n dX6_refreshAnalysis_0 rfl (aw_geti fkX6_57 fa_0_8 dX6_refreshAnalysis_1 (aw_if_eq 8 dX6_refreshAnalysis_4 (by decide) (fun c1 => (aw_aload_n dX6_refreshAnalysis_8 rfl (aw_getr 6 fkX6_36 fa_0_4 dX6_refreshAnalysis_9 (aw_aload_n dX6_refreshAnalysis_12 rfl (aw_getr 34 fkX6_19 fa_0_1 dX6_refreshAnalysis_13 (aw_callVv lkX6_217 ckX3_readFrom ca_6 rfl (d := 5) (by decide) [.inr 34] rfl rfl (Nat.le_of_ble_eq_true rfl) dX6_refreshAnalysis_16 rfl (Runs.mono (h.1 c1) (fun r1 g1 h1_ => (aw_aload_n dX6_refreshAnalysis_19 rfl (aw_getr 12 fkX6_43 fa_0_5 dX6_refreshAnalysis_20 (aw_aload_n dX6_refreshAnalysis_23 rfl (aw_getr 6 fkX6_36 fa_0_4 dX6_refreshAnalysis_24 (aw_aload_n dX6_refreshAnalysis_27 rfl (aw_getr 34 fkX6_19 fa_0_1 dX6_refreshAnalysis_28 (aw_callVv lkX6_220 ckX0_findAll ca_12 rfl (d := 5) (by decide) [.inr 6, .inr 34] rfl rfl (Nat.le_of_ble_eq_true rfl) dX6_refreshAnalysis_31 rfl (Runs.mono h1_ (fun r2 g2 h2_ => (aw_aload_n dX6_refreshAnalysis_34 rfl (aw_getr 22 fkX6_50 fa_0_6 dX6_refreshAnalysis_35 (aw_aload_n dX6_refreshAnalysis_38 rfl (aw_getr 34 fkX6_19 fa_0_1 dX6_refreshAnalysis_39 (aw_iconst 0 dX6_refreshAnalysis_42 (by decide) (aw_callVv lkX6_224 ckX1_start ca_22 rfl (d := 3) (by decide) [.inr 34, .inl 0] rfl rfl (Nat.le_of_ble_eq_true rfl) dX6_refreshAnalysis_43 rfl (Runs.mono h2_ (fun r3 g3 h3_ => (aw_aload_n dX6_refreshAnalysis_46 rfl (aw_getr 22 fkX6_50 fa_0_6 dX6_refreshAnalysis_47 (aw_aload_n dX6_refreshAnalysis_50 rfl (aw_getr 6 fkX6_36 fa_0_4 dX6_refreshAnalysis_51 (aw_iconst 1 dX6_refreshAnalysis_54 (by decide) (aw_callVv lkX6_228 ckX1_close ca_22 rfl (d := 4) (by decide) [.inr 6, .inl 1] rfl rfl (Nat.le_of_ble_eq_true rfl) dX6_refreshAnalysis_55 rfl (Runs.mono h3_ (fun r4 g4 h4_ => (aw_aload_n dX6_refreshAnalysis_58 rfl (aw_iconst 1 dX6_refreshAnalysis_59 (by decide) (aw_putf fpX6_57 fa_0_8 (by decide) (by decide) dX6_refreshAnalysis_60 (aw_vret rfl dX6_refreshAnalysis_63 h4_))))))))))))))))))))))))))))))))))))) (fun c1 => (aw_vret rfl dX6_refreshAnalysis_7 (h.2 c1))))))
theorem ct_X6_refresh {Γ : Gam} {s : St} {g : Mem} (h : CW 34 s g) (hA : AC s g) : Runs Γ 6 yX6_refreshAnalysis iX6_refreshAnalysis [.inr 0] g (fun _ g' => g' 0 8 = 1 ∧ AnOk s g' ∧ (∀ k, (1 ≤ k ∧ k < 6 ∨ 23 < k) → g' k = g k) ∧ ∀ j, j ≠ 8 → g' 0 j = g 0 j) := by
  refine Runs.intro (by decide) rfl (Nat.le_of_ble_eq_true rfl) (sg_X6_refreshAnalysis_0 ⟨fun c => ?_, fun c => ?_⟩)
  · refine (ct_X3_readFrom h).mono (fun _ g1 q1 => ?_)
    obtain ⟨r1, f1⟩ := q1
    have h1 : CW 34 s g1 := ⟨h.1.ext (fun k k1 k2 => f1 k (by omega)), h.2⟩
    refine (ct_X0_findAll h1 r1).mono (fun _ g2 q2 => ?_)
    obtain ⟨r2, a2, f2⟩ := q2
    have h2 : CW 34 s g2 := ⟨h1.1.ext (fun k k1 k2 => f2 k (by omega)), h.2⟩
    refine (ct_X1_start (b := 22) (rem := 0) (Or.inl rfl) h2 (by decide)).mono (fun _ g3 q3 => ?_)
    obtain ⟨f3, w3⟩ := q3
    have r3 : RolesOk s g3 := r2.ext (fun k k1 k2 => f3 k (by omega))
    refine (ct_X1_close (b := 22) (rem := 0) (m := true) (Or.inl rfl) h.2 r3 w3).mono (fun _ g4 q4 => ?_)
    obtain ⟨f4, E, e1, e2, e3, e4, e5⟩ := q4
    have f5 : ∀ k, k ≠ 22 → k ≠ 23 → g4 k = g2 k := fun k k1 k2 => by rw [f4 k k1 k2, f3 k k2]
    have r5 : RolesOk s (up g4 0 8 1) := r2.ext (fun k k1 k2 => by rw [up_ne (by omega), f5 k (by omega) (by omega)])
    have a5 : AnaOk s (up g4 0 8 1) := by
      have a6 := a2
      unfold AnaOk at a6 ⊢
      have ee : ∀ k, 12 ≤ k → k < 20 → up g4 0 8 1 k = g2 k := fun k k1 k2 => by rw [up_ne (by omega), f5 k (by omega) (by omega)]
      rw [ee 12 (by decide) (by decide), ee 13 (by decide) (by decide), ee 15 (by decide) (by decide), ee 16 (by decide) (by decide), ee 17 (by decide) (by decide), ee 18 (by decide) (by decide), ee 19 (by decide) (by decide)]
      exact a6
    have c5 : CoaOk s (up g4 0 8 1) := ⟨E, ⟨e3, e5.1, e5.2 rfl, fun F b1 b2 b3 a b _ _ eab => e4 F ⟨b2, fun _ => b3⟩ b1 a b eab⟩, fun a ha => by rw [up_ne (by decide)]; exact e1 a ha⟩
    refine ⟨up_at _ _ _ _, ⟨r5, a5, c5⟩, fun k hk => ?_, fun j hj => ?_⟩
    · rw [up_ne (by omega), f5 k (by omega) (by omega), f2 k (by omega), f1 k (by omega)]
    · rw [up_nx hj, f5 0 (by decide) (by decide), f2 0 (by decide), f1 0 (by decide)]
  · rcases hA with q | ⟨q1, q2⟩
    · exact absurd q c
    · exact ⟨q1, q2, fun _ _ => rfl, fun _ _ => rfl⟩
