/-! The reference's answers from an analysis. -/
theorem rnd_yes {s : St} {rem a b : Nat} (h : fnd s rem a b = true) : rnd s rem a b ≤ LR s rem ∧ it s rem (rnd s rem a b) a b = true ∧ (∀ t, t < rnd s rem a b → it s rem t a b = false) ∧ fr_ s rem a b (LR s rem + 1) = nI (rnd s rem a b) := by
  have q : rnd s rem a b < LR s rem + 1 := by
    have := (ff_lt (fun r => it s rem r a b) (LR s rem + 1) 0).mpr ⟨LR s rem, by omega, by omega, h⟩
    rw [Nat.zero_add] at this
    exact this
  refine ⟨by omega, ff_yes (fun r => it s rem r a b) (LR s rem + 1) 0 (by unfold rnd at q; omega), fun t ht => ff_no (fun r => it s rem r a b) (LR s rem + 1) 0 t (Nat.zero_le _) ht, ?_⟩
  exact if_pos q
theorem rnd_no {s : St} (hw : WF s) {rem a b : Nat} (h : fnd s rem a b = false) : fr_ s rem a b (LR s rem + 1) = -9 := by
  have hL := LR_le hw rem
  exact (fr_no (by omega)).mpr h
theorem rnd_der {s : St} {rem a b : Nat} (ha : a < s 0) (hb : b < s 0) (h : fnd s rem a b = true) (h0 : rnd s rem a b ≠ 0) : der s (it s rem (rnd s rem a b - 1)) a b = true := by
  obtain ⟨h1, h2, h3, -⟩ := rnd_yes h
  have h4 := h3 (rnd s rem a b - 1) (by omega)
  have h5 := it_new ha hb h4
  rw [show rnd s rem a b - 1 + 1 = rnd s rem a b by omega, h2] at h5
  exact h5.symm
theorem AnM_eB {s : St} (hw : WF s) {rem t : Nat} {g : Mem} (h : AnM s rem g) (ht : t ≤ LR s rem) : eB s g (nI (t + 1)) = it s rem t := by
  have hL := LR_le hw rem
  funext x y
  unfold eB
  by_cases hxy : x < s 0 ∧ y < s 0
  · rw [h.1 x y hxy.1 hxy.2]
    simp only [hxy.1, hxy.2, decide_true, Bool.true_and]
    cases ef : fnd s rem x y with
    | false =>
      rw [rnd_no hw ef]
      cases e : it s rem t x y with
      | false => simp
      | true => rw [fnd_all hw e] at ef; cases ef
    | true =>
      obtain ⟨h1, h2, h3, h4⟩ := rnd_yes ef
      rw [h4]
      have h5 : ¬ nI (rnd s rem x y) = -9 := nI_ne_neg (by omega) (by decide)
      cases e : it s rem t x y with
      | false =>
        have h6 : nI (t + 1) ≤ nI (rnd s rem x y) := by
          rw [nI_leI (by omega) (by omega)]
          rcases Nat.lt_or_ge t (rnd s rem x y) with q | q
          · omega
          · rw [it_le q h2] at e; cases e
        simp [h6]
      | true =>
        have h6 : ¬ nI (t + 1) ≤ nI (rnd s rem x y) := by
          rw [nI_leI (by omega) (by omega)]
          intro q
          rw [h3 t (by omega)] at e; cases e
        simp [h5, h6]
  · rw [it_out hw hxy]
    by_cases hx : x < s 0
    · have hy : ¬ y < s 0 := fun q => hxy ⟨hx, q⟩
      simp [hy]
    · simp [hx]
theorem MI.an {a : Ab} {g g' : Mem} (h : MI a g) (hf : frA g g') : MI a g' := by
  unfold MI MA HM TM at h ⊢
  rw [hf.1 27 (by decide) (by decide), hf.1 29 (by decide) (by decide), hf.1 30 (by decide) (by decide), hf.2 4 (by decide), hf.2 6 (by decide)]
  exact h
theorem frM_an {g g' : Mem} (hf : frA g g') : frM g g' := fun k hk => hf.1 k (by omega) (by omega)
theorem OpM.an {a : Ab} {g g' : Mem} {e : Int32} (h : MI a g) (hf : frA (up g 26 0 0) g') : OpM (e, a) g e g' := ⟨rfl, h.thr.an hf, (frM_thr g).trans (frM_an hf)⟩
theorem sg_X7_roundOf_0 {Γ : Gam} {P : Int32 → Mem → Prop}  (a1 a2 : Int32) {g : Mem} (h : (Runs Γ 10 yX7_analyse iX7_analyse [.inr 26, .inl 0] g (fun r1 g1 => (vp_in ((10 * a1) + a2) 100 ∧ P (g1 31 ((10 * a1) + a2).toNatClampNeg) g1)))) : AW Γ 11 iX7_roundOf P 0 [some (.inr 26), some (.inl a1), some (.inl a2)] [] g :=
  (aw_aload_n dX7_roundOf_0 rfl (aw_iconst 0 dX7_roundOf_1 (by decide) (aw_callVv lkX7_163 ckX7_analyse ca_26 rfl (d := 10) (by decide) [.inl 0] rfl rfl (Nat.le_of_ble_eq_true rfl) dX7_roundOf_2 rfl (Runs.mono h (fun r1 g1 h1_ => (aw_aload_n dX7_roundOf_5 rfl (aw_getr 31 fkX7_22 fa_26_12 dX7_roundOf_6 (aw_bipush 10 dX7_roundOf_9 (by decide) (aw_iload_n dX7_roundOf_11 rfl (aw_imul dX7_roundOf_12 (aw_iload_n dX7_roundOf_13 rfl (aw_iadd dX7_roundOf_14 (aw_iald aa_31 dX7_roundOf_15 h1_.1 (aw_iret rfl (vp_nar_int _) dX7_roundOf_16 h1_.2))))))))))))))
theorem ct_X7_roundOf {Γ : Gam} {s : St} {g : Mem} {x y : Nat} (h : MW 27 s g) (hx : x < s 0) (hy : y < s 0) : Runs Γ 11 yX7_roundOf iX7_roundOf [.inr 26, .inl (nI x), .inl (nI y)] g (fun r g' => r = rdI s x y ∧ frA g g' ∧ AnM s 0 g') := by
  have hn := h.2.n
  refine Runs.intro (by decide) rfl (Nat.le_of_ble_eq_true rfl) (sg_X7_roundOf_0 _ _ ((ct_X7_analyse h (rem := 0) (by decide)).mono (fun r g1 q => ?_)))
  rw [pair_nI', ix_nI (by omega), q.2.1 x y hx hy]
  exact ⟨vp_nI (by omega) (by decide), rfl, q.1, q.2⟩
def sp_mayHold (a : Ab) (x y : Int32) : Int32 := if inR (a.1 0) x && inR (a.1 0) y then bi (fnd a.1 0 x.toNatClampNeg y.toNatClampNeg) else -1
def sp_round (a : Ab) (x y : Int32) : Int32 := if inR (a.1 0) x && inR (a.1 0) y then rdI a.1 x.toNatClampNeg y.toNatClampNeg else -1
def sp_rule (a : Ab) (x y : Int32) : Int32 := if inR (a.1 0) x && inR (a.1 0) y then ruI a.1 x.toNatClampNeg y.toNatClampNeg else -1
def sp_partner (a : Ab) (x y : Int32) : Int32 := if inR (a.1 0) x && inR (a.1 0) y then paI a.1 x.toNatClampNeg y.toNatClampNeg else -1
theorem rdI_neg {s : St} (hw : WF s) {a b : Nat} : rdI s a b = -9 ↔ fnd s 0 a b = false := by
  have hL := LR_le hw 0
  exact fr_no (by omega)
theorem sg_X7_mayHold_0 {Γ : Gam} {P : Int32 → Mem → Prop}  (s : St) (a1 a2 : Int32) {g : Mem} (h : (MW 27 s (up g 26 0 0) ∧ ((¬ (bi (inR (s 0) a1 && inR (s 0) a2)) = 0 → (Runs Γ 11 yX7_roundOf iX7_roundOf [.inr 26, .inl a1, .inl a2] (up g 26 0 0) (fun r1 g1 => ((¬ r1 = (-9) → P 1 g1) ∧ (r1 = (-9) → P 0 g1))))) ∧ ((bi (inR (s 0) a1 && inR (s 0) a2)) = 0 → P (-1) (up g 26 0 0))))) : AW Γ 12 iX7_mayHold P 0 [some (.inr 26), some (.inl a1), some (.inl a2)] [] g :=
  (aw_aload_n dX7_mayHold_0 rfl (aw_iconst 0 dX7_mayHold_1 (by decide) (aw_putf fpX7_32 fa_26_0 (vp_nar_int _) rfl dX7_mayHold_2 (aw_aload_n dX7_mayHold_5 rfl (aw_iload_n dX7_mayHold_6 rfl (aw_iload_n dX7_mayHold_7 rfl (aw_callVi lkX7_166 ckX7_areObjects ca_26 rfl (d := 3) (by decide) [.inl a1, .inl a2] rfl rfl (Nat.le_of_ble_eq_true rfl) dX7_mayHold_8 rfl (Runs.fn (ct_X7_areObjects h.1) (aw_if_ne 18 dX7_mayHold_11 (by decide) (fun c1 => (aw_aload_n dX7_mayHold_18 rfl (aw_iload_n dX7_mayHold_19 rfl (aw_iload_n dX7_mayHold_20 rfl (aw_callVi lkX7_169 ckX7_roundOf ca_26 rfl (d := 11) (by decide) [.inl a1, .inl a2] rfl rfl (Nat.le_of_ble_eq_true rfl) dX7_mayHold_21 rfl (Runs.mono (h.2.1 c1) (fun r1 g1 h1_ => (aw_bipush (-9) dX7_mayHold_24 (by decide) (aw_icmp_ne 33 dX7_mayHold_26 (by decide) (fun c2 => (aw_iconst 1 dX7_mayHold_33 (by decide) (aw_iret rfl (vp_nar_int _) dX7_mayHold_34 (h1_.1 c2)))) (fun c2 => (aw_iconst 0 dX7_mayHold_29 (by decide) (aw_goto 34 dX7_mayHold_30 (by decide) (aw_iret rfl (vp_nar_int _) dX7_mayHold_34 (h1_.2 c2)))))))))))))) (fun c1 => (aw_iconst (-1) dX7_mayHold_14 (by decide) (aw_goto 34 dX7_mayHold_15 (by decide) (aw_iret rfl (vp_nar_int _) dX7_mayHold_34 (h.2.2 c1))))))))))))))
theorem om_mayHold {Γ : Gam} {a : Ab} {g : Mem} {x y : Int32} (h : MI a g) (hw : WA a) : Runs Γ 12 yX7_mayHold iX7_mayHold [.inr 26, .inl x, .inl y] g (OpM (sp_mayHold a x y, a) g) := by
  have hn := hw.1.n
  unfold sp_mayHold
  refine Runs.intro (by decide) rfl (Nat.le_of_ble_eq_true rfl) (sg_X7_mayHold_0 a.1 x y ⟨h.thr.s hw, fun c1 => ?_, fun c1 => ?_⟩)
  · rw [bi_ne0] at c1
    rw [if_pos c1]
    rw [Bool.and_eq_true] at c1
    obtain ⟨x, hx, rfl⟩ := inR_ob c1.1
    obtain ⟨y, hy, rfl⟩ := inR_ob c1.2
    rw [ix_nI (by omega), ix_nI (by omega)]
    refine (ct_X7_roundOf (h.thr.s hw) hx hy).mono (fun r g1 q => ?_)
    obtain ⟨rfl, q1, q2⟩ := q
    rw [rdI_neg hw.1]
    refine ⟨fun c => ?_, fun c => ?_⟩
    · rw [show fnd a.1 0 x y = true by simpa using c]; exact OpM.an h q1
    · rw [c]; exact OpM.an h q1
  · rw [bi_eq0] at c1; rw [if_neg (by simp [c1])]; exact OpM.same h
theorem sg_X7_round_0 {Γ : Gam} {P : Int32 → Mem → Prop}  (s : St) (a1 a2 : Int32) {g : Mem} (h : (MW 27 s (up g 26 0 0) ∧ (((bi (inR (s 0) a1 && inR (s 0) a2)) = 0 → P (-1) (up g 26 0 0)) ∧ (¬ (bi (inR (s 0) a1 && inR (s 0) a2)) = 0 → (Runs Γ 11 yX7_roundOf iX7_roundOf [.inr 26, .inl a1, .inl a2] (up g 26 0 0) (fun r1 g1 => P r1 g1)))))) : AW Γ 12 iX7_round P 0 [some (.inr 26), some (.inl a1), some (.inl a2)] [] g :=
  (aw_aload_n dX7_round_0 rfl (aw_iconst 0 dX7_round_1 (by decide) (aw_putf fpX7_32 fa_26_0 (vp_nar_int _) rfl dX7_round_2 (aw_aload_n dX7_round_5 rfl (aw_iload_n dX7_round_6 rfl (aw_iload_n dX7_round_7 rfl (aw_callVi lkX7_166 ckX7_areObjects ca_26 rfl (d := 3) (by decide) [.inl a1, .inl a2] rfl rfl (Nat.le_of_ble_eq_true rfl) dX7_round_8 rfl (Runs.fn (ct_X7_areObjects h.1) (aw_if_eq 23 dX7_round_11 (by decide) (fun c1 => (aw_iconst (-1) dX7_round_23 (by decide) (aw_iret rfl (vp_nar_int _) dX7_round_24 (h.2.1 c1)))) (fun c1 => (aw_aload_n dX7_round_14 rfl (aw_iload_n dX7_round_15 rfl (aw_iload_n dX7_round_16 rfl (aw_callVi lkX7_169 ckX7_roundOf ca_26 rfl (d := 11) (by decide) [.inl a1, .inl a2] rfl rfl (Nat.le_of_ble_eq_true rfl) dX7_round_17 rfl (Runs.mono (h.2.2 c1) (fun r1 g1 h1_ => (aw_goto 24 dX7_round_20 (by decide) (aw_iret rfl (vp_nar_int _) dX7_round_24 h1_))))))))))))))))))
theorem om_round {Γ : Gam} {a : Ab} {g : Mem} {x y : Int32} (h : MI a g) (hw : WA a) : Runs Γ 12 yX7_round iX7_round [.inr 26, .inl x, .inl y] g (OpM (sp_round a x y, a) g) := by
  have hn := hw.1.n
  unfold sp_round
  refine Runs.intro (by decide) rfl (Nat.le_of_ble_eq_true rfl) (sg_X7_round_0 a.1 x y ⟨h.thr.s hw, fun c1 => ?_, fun c1 => ?_⟩)
  · rw [bi_eq0] at c1; rw [if_neg (by simp [c1])]; exact OpM.same h
  · rw [bi_ne0] at c1
    rw [if_pos c1]
    rw [Bool.and_eq_true] at c1
    obtain ⟨x, hx, rfl⟩ := inR_ob c1.1
    obtain ⟨y, hy, rfl⟩ := inR_ob c1.2
    rw [ix_nI (by omega), ix_nI (by omega)]
    refine (ct_X7_roundOf (h.thr.s hw) hx hy).mono (fun r g1 q => ?_)
    obtain ⟨rfl, q1, q2⟩ := q
    exact OpM.an h q1
theorem one_le {t : Nat} (ht : t < 2 ^ 31) : (1 : Int32) ≤ nI t ↔ t ≠ 0 := by
  rw [show (1 : Int32) = nI 1 from rfl, nI_leI (by decide) ht]; omega
/-- what a question of the reference meets: the round, and the relation behind it -/
theorem rd_cases {s : St} (hw : WF s) {x y : Nat} (hx : x < s 0) (hy : y < s 0) : (fnd s 0 x y = false ∧ rdI s x y = -9) ∨ (fnd s 0 x y = true ∧ rnd s 0 x y = 0 ∧ rdI s x y = 0) ∨ (fnd s 0 x y = true ∧ rnd s 0 x y ≠ 0 ∧ rnd s 0 x y ≤ 100 ∧ rdI s x y = nI (rnd s 0 x y) ∧ rlI s (bef s x y) x y = nI (rl s (bef s x y) x y) ∧ rl s (bef s x y) x y < 6 ∧ pt s (bef s x y) (rl s (bef s x y) x y) x y < s 0 ∧ ∀ g, AnM s 0 g → eB s g (nI (rnd s 0 x y)) = bef s x y) := by
  have hL := LR_le hw 0
  cases e : fnd s 0 x y with
  | false => exact Or.inl ⟨rfl, (rdI_neg hw).mpr e⟩
  | true =>
    right
    obtain ⟨h1, h2, h3, h4⟩ := rnd_yes e
    by_cases h0 : rnd s 0 x y = 0
    · refine Or.inl ⟨rfl, h0, ?_⟩
      have : rdI s x y = nI (rnd s 0 x y) := h4
      rw [this, h0]; rfl
    · have hd := rnd_der hx hy e h0
      have hr : rl s (bef s x y) x y < 6 := of_decide_eq_true hd
      refine Or.inr ⟨rfl, h0, by omega, h4, by rw [rlI, if_pos hr], hr, ?_, fun g hg => ?_⟩
      · have := ff_yes (fun r => decide (pt s (bef s x y) r x y < s 0)) 5 1 hr
        exact of_decide_eq_true this
      · have := AnM_eB hw hg (t := rnd s 0 x y - 1) (by omega)
        rw [show rnd s 0 x y - 1 + 1 = rnd s 0 x y by omega] at this
        exact this
theorem sg_X7_rule_0 {Γ : Gam} {P : Int32 → Mem → Prop}  (s : St) (a1 a2 : Int32) {g : Mem} (h : (MW 27 s (up g 26 0 0) ∧ ((¬ (bi (inR (s 0) a1 && inR (s 0) a2)) = 0 → (Runs Γ 11 yX7_roundOf iX7_roundOf [.inr 26, .inl a1, .inl a2] (up g 26 0 0) (fun r1 g1 => ((1 ≤ r1 → ((MW 27 s g1 ∧ inR (s 0) a1 = true ∧ inR (s 0) a2 = true) ∧ P (rlI s (eB s g1 r1) a1.toNatClampNeg a2.toNatClampNeg) g1)) ∧ (¬ (1 ≤ r1) → P r1 g1))))) ∧ ((bi (inR (s 0) a1 && inR (s 0) a2)) = 0 → P (-1) (up g 26 0 0))))) : AW Γ 12 iX7_rule P 0 [some (.inr 26), some (.inl a1), some (.inl a2)] [] g :=
  (aw_aload_n dX7_rule_0 rfl (aw_iconst 0 dX7_rule_1 (by decide) (aw_putf fpX7_32 fa_26_0 (vp_nar_int _) rfl dX7_rule_2 (aw_aload_n dX7_rule_5 rfl (aw_iload_n dX7_rule_6 rfl (aw_iload_n dX7_rule_7 rfl (aw_callVi lkX7_166 ckX7_areObjects ca_26 rfl (d := 3) (by decide) [.inl a1, .inl a2] rfl rfl (Nat.le_of_ble_eq_true rfl) dX7_rule_8 rfl (Runs.fn (ct_X7_areObjects h.1) (aw_if_ne 16 dX7_rule_11 (by decide) (fun c1 => (aw_aload_n dX7_rule_16 rfl (aw_iload_n dX7_rule_17 rfl (aw_iload_n dX7_rule_18 rfl (aw_callVi lkX7_169 ckX7_roundOf ca_26 rfl (d := 11) (by decide) [.inl a1, .inl a2] rfl rfl (Nat.le_of_ble_eq_true rfl) dX7_rule_19 rfl (Runs.mono (h.2.1 c1) (fun r1 g1 h1_ => (aw_istore_n [some (.inr 26), some (.inl a1), some (.inl a2), some (.inl r1)] dX7_rule_22 (by decide) rfl (aw_iload_n dX7_rule_23 rfl (aw_iconst 1 dX7_rule_24 (by decide) (aw_icmp_ge 32 dX7_rule_25 (by decide) (fun c2 => (aw_aload_n dX7_rule_32 rfl (aw_iload_n dX7_rule_33 rfl (aw_iload_n dX7_rule_34 rfl (aw_iload_n dX7_rule_35 rfl (aw_callVi lkX7_160 ckX7_ruleFor ca_26 rfl (d := 8) (by decide) [.inl a1, .inl a2, .inl r1] rfl rfl (Nat.le_of_ble_eq_true rfl) dX7_rule_36 rfl (Runs.fn (ct_X7_ruleFor (h1_.1 c2).1) (aw_iret rfl (vp_nar_int _) dX7_rule_39 (h1_.1 c2).2)))))))) (fun c2 => (aw_iload_n dX7_rule_28 rfl (aw_goto 39 dX7_rule_29 (by decide) (aw_iret rfl (vp_nar_int _) dX7_rule_39 (h1_.2 c2)))))))))))))))) (fun c1 => (aw_iconst (-1) dX7_rule_14 (by decide) (aw_iret rfl (vp_nar_int _) dX7_rule_15 (h.2.2 c1)))))))))))))
theorem om_rule {Γ : Gam} {a : Ab} {g : Mem} {x y : Int32} (h : MI a g) (hw : WA a) : Runs Γ 12 yX7_rule iX7_rule [.inr 26, .inl x, .inl y] g (OpM (sp_rule a x y, a) g) := by
  have hn := hw.1.n
  unfold sp_rule
  refine Runs.intro (by decide) rfl (Nat.le_of_ble_eq_true rfl) (sg_X7_rule_0 a.1 x y ⟨h.thr.s hw, fun c1 => ?_, fun c1 => ?_⟩)
  · rw [bi_ne0] at c1
    rw [if_pos c1]
    rw [Bool.and_eq_true] at c1
    obtain ⟨x, hx, rfl⟩ := inR_ob c1.1
    obtain ⟨y, hy, rfl⟩ := inR_ob c1.2
    rw [ix_nI (by omega), ix_nI (by omega)]
    refine (ct_X7_roundOf (h.thr.s hw) hx hy).mono (fun r g1 q => ?_)
    obtain ⟨rfl, q1, q2⟩ := q
    have hm : MW 27 a.1 g1 := (h.thr.an q1).s hw
    unfold ruI
    rcases rd_cases hw.1 hx hy with ⟨e1, e2⟩ | ⟨e1, e2, e3⟩ | ⟨e1, e2, e3, e4, e5, e6, e7, e8⟩
    · rw [e1, e2, if_neg (by decide)]
      exact ⟨fun c => absurd c (by decide), fun _ => OpM.an h q1⟩
    · rw [e1, e3, if_pos rfl, if_pos e2]
      exact ⟨fun c => absurd c (by decide), fun _ => OpM.an h q1⟩
    · rw [e1, e4, if_pos rfl, if_neg e2, one_le (by omega), e8 g1 q2, e5]
      exact ⟨fun _ => ⟨⟨hm, c1⟩, OpM.an h q1⟩, fun c => absurd e2 c⟩
  · rw [bi_eq0] at c1; rw [if_neg (by simp [c1])]; exact OpM.same h
theorem sg_X7_partner_0 {Γ : Gam} {P : Int32 → Mem → Prop}  (s : St) (a1 a2 : Int32) {g : Mem} (h : (MW 27 s (up g 26 0 0) ∧ ((¬ (bi (inR (s 0) a1 && inR (s 0) a2)) = 0 → (Runs Γ 11 yX7_roundOf iX7_roundOf [.inr 26, .inl a1, .inl a2] (up g 26 0 0) (fun r1 g1 => ((1 ≤ r1 → ((MW 27 s g1 ∧ inR (s 0) a1 = true ∧ inR (s 0) a2 = true) ∧ ((MW 27 s g1 ∧ inI (rlI s (eB s g1 r1) a1.toNatClampNeg a2.toNatClampNeg) 1 5 = true ∧ inR (s 0) a1 = true ∧ inR (s 0) a2 = true) ∧ P (fI (-9) (qq s (eB s g1 r1) (rlI s (eB s g1 r1) a1.toNatClampNeg a2.toNatClampNeg).toNatClampNeg a1.toNatClampNeg a2.toNatClampNeg) (s 0)) g1))) ∧ (¬ (1 ≤ r1) → P (-9) g1))))) ∧ ((bi (inR (s 0) a1 && inR (s 0) a2)) = 0 → P (-1) (up g 26 0 0))))) : AW Γ 12 iX7_partner P 0 [some (.inr 26), some (.inl a1), some (.inl a2)] [] g :=
  (aw_aload_n dX7_partner_0 rfl (aw_iconst 0 dX7_partner_1 (by decide) (aw_putf fpX7_32 fa_26_0 (vp_nar_int _) rfl dX7_partner_2 (aw_aload_n dX7_partner_5 rfl (aw_iload_n dX7_partner_6 rfl (aw_iload_n dX7_partner_7 rfl (aw_callVi lkX7_166 ckX7_areObjects ca_26 rfl (d := 3) (by decide) [.inl a1, .inl a2] rfl rfl (Nat.le_of_ble_eq_true rfl) dX7_partner_8 rfl (Runs.fn (ct_X7_areObjects h.1) (aw_if_ne 16 dX7_partner_11 (by decide) (fun c1 => (aw_aload_n dX7_partner_16 rfl (aw_iload_n dX7_partner_17 rfl (aw_iload_n dX7_partner_18 rfl (aw_callVi lkX7_169 ckX7_roundOf ca_26 rfl (d := 11) (by decide) [.inl a1, .inl a2] rfl rfl (Nat.le_of_ble_eq_true rfl) dX7_partner_19 rfl (Runs.mono (h.2.1 c1) (fun r1 g1 h1_ => (aw_istore_n [some (.inr 26), some (.inl a1), some (.inl a2), some (.inl r1)] dX7_partner_22 (by decide) rfl (aw_iload_n dX7_partner_23 rfl (aw_iconst 1 dX7_partner_24 (by decide) (aw_icmp_ge 33 dX7_partner_25 (by decide) (fun c2 => (aw_aload_n dX7_partner_33 rfl (aw_aload_n dX7_partner_34 rfl (aw_iload_n dX7_partner_35 rfl (aw_iload_n dX7_partner_36 rfl (aw_iload_n dX7_partner_37 rfl (aw_callVi lkX7_160 ckX7_ruleFor ca_26 rfl (d := 8) (by decide) [.inl a1, .inl a2, .inl r1] rfl rfl (Nat.le_of_ble_eq_true rfl) dX7_partner_38 rfl (Runs.fn (ct_X7_ruleFor (h1_.1 c2).1) (aw_iload_n dX7_partner_41 rfl (aw_iload_n dX7_partner_42 rfl (aw_iload_n dX7_partner_43 rfl (aw_callVi lkX7_147 ckX7_partnerBy ca_26 rfl (d := 7) (by decide) [.inl (rlI s (eB s g1 r1) a1.toNatClampNeg a2.toNatClampNeg), .inl a1, .inl a2, .inl r1] rfl rfl (Nat.le_of_ble_eq_true rfl) dX7_partner_44 rfl (Runs.fn (ct_X7_partnerBy (h1_.1 c2).2.1) (aw_iret rfl (vp_nar_int _) dX7_partner_47 (h1_.1 c2).2.2)))))))))))))) (fun c2 => (aw_bipush (-9) dX7_partner_28 (by decide) (aw_goto 47 dX7_partner_30 (by decide) (aw_iret rfl (vp_nar_int _) dX7_partner_47 (h1_.2 c2)))))))))))))))) (fun c1 => (aw_iconst (-1) dX7_partner_14 (by decide) (aw_iret rfl (vp_nar_int _) dX7_partner_15 (h.2.2 c1)))))))))))))
theorem om_partner {Γ : Gam} {a : Ab} {g : Mem} {x y : Int32} (h : MI a g) (hw : WA a) : Runs Γ 12 yX7_partner iX7_partner [.inr 26, .inl x, .inl y] g (OpM (sp_partner a x y, a) g) := by
  have hn := hw.1.n
  unfold sp_partner
  refine Runs.intro (by decide) rfl (Nat.le_of_ble_eq_true rfl) (sg_X7_partner_0 a.1 x y ⟨h.thr.s hw, fun c1 => ?_, fun c1 => ?_⟩)
  · rw [bi_ne0] at c1
    rw [if_pos c1]
    rw [Bool.and_eq_true] at c1
    obtain ⟨x, hx, rfl⟩ := inR_ob c1.1
    obtain ⟨y, hy, rfl⟩ := inR_ob c1.2
    rw [ix_nI (by omega), ix_nI (by omega)]
    refine (ct_X7_roundOf (h.thr.s hw) hx hy).mono (fun r g1 q => ?_)
    obtain ⟨rfl, q1, q2⟩ := q
    have hm : MW 27 a.1 g1 := (h.thr.an q1).s hw
    unfold paI
    rcases rd_cases hw.1 hx hy with ⟨e1, e2⟩ | ⟨e1, e2, e3⟩ | ⟨e1, e2, e3, e4, e5, e6, e7, e8⟩
    · rw [e1, e2, if_neg (by decide)]
      exact ⟨fun c => absurd c (by decide), fun _ => OpM.an h q1⟩
    · rw [e1, e3, if_pos rfl, if_pos e2]
      exact ⟨fun c => absurd c (by decide), fun _ => OpM.an h q1⟩
    · have hr := rl_lt a.1 (bef a.1 x y) x y
      rw [e1, e4, if_pos rfl, if_neg e2, one_le (by omega), e8 g1 q2, e5, ix_nI (by omega), fI_at rfl e7]
      refine ⟨fun _ => ⟨⟨hm, c1⟩, ⟨hm, ?_, c1⟩, OpM.an h q1⟩, fun c => absurd e2 c⟩
      simp only [inI, Bool.and_eq_true, decide_eq_true_eq]
      exact ⟨nI_le hr.1 (by omega), nI_le (show _ ≤ 5 by omega) (by decide)⟩
  · rw [bi_eq0] at c1; rw [if_neg (by simp [c1])]; exact OpM.same h
theorem sg_X7_lastRound_0 {Γ : Gam} {P : Int32 → Mem → Prop}  {g : Mem} (h : (Runs Γ 10 yX7_analyse iX7_analyse [.inr 26, .inl 0] (up g 26 0 0) (fun r1 g1 => P (g1 26 13) g1))) : AW Γ 11 iX7_lastRound P 0 [some (.inr 26)] [] g :=
  (aw_aload_n dX7_lastRound_0 rfl (aw_iconst 0 dX7_lastRound_1 (by decide) (aw_putf fpX7_32 fa_26_0 (vp_nar_int _) rfl dX7_lastRound_2 (aw_aload_n dX7_lastRound_5 rfl (aw_iconst 0 dX7_lastRound_6 (by decide) (aw_callVv lkX7_163 ckX7_analyse ca_26 rfl (d := 10) (by decide) [.inl 0] rfl rfl (Nat.le_of_ble_eq_true rfl) dX7_lastRound_7 rfl (Runs.mono h (fun r1 g1 h1_ => (aw_aload_n dX7_lastRound_10 rfl (aw_geti fkX7_154 fa_26_13 dX7_lastRound_11 (aw_iret rfl (vp_nar_int _) dX7_lastRound_14 h1_)))))))))))
theorem om_lastRound {Γ : Gam} {a : Ab} {g : Mem} (h : MI a g) (hw : WA a) : Runs Γ 11 yX7_lastRound iX7_lastRound [.inr 26] g (OpM (nI (LR a.1 0), a) g) := by
  refine Runs.intro (by decide) rfl (Nat.le_of_ble_eq_true rfl) (sg_X7_lastRound_0 ((ct_X7_analyse (h.thr.s hw) (rem := 0) (by decide)).mono (fun r g1 q => ?_)))
  rw [q.2.2]
  exact OpM.an h q.1
/-- how many of the first k requirements E violates -/
def vio (s : St) (E : Rel) : Nat → Nat
  | 0 => 0
  | k + 1 => vio s E k + (if E (s (63 + 2 * k)) (s (63 + 2 * k + 1)) then 1 else 0)
theorem sg_X7_violations_0 {Γ : Gam} {P : Int32 → Mem → Prop}  {g : Mem} (h : AW Γ 1 iX7_violations P 4 [some (.inr 26), some (.inl 0), some (.inl 0)] [] g) : AW Γ 1 iX7_violations P 0 [some (.inr 26)] [] g :=
  (aw_iconst 0 dX7_violations_0 (by decide) (aw_istore_n [some (.inr 26), some (.inl 0)] dX7_violations_1 (by decide) rfl (aw_iconst 0 dX7_violations_2 (by decide) (aw_istore_n [some (.inr 26), some (.inl 0), some (.inl 0)] dX7_violations_3 (by decide) rfl (aw_mask [true, true, true] rfl h)))))
theorem sg_X7_violations_4 {Γ : Gam} {P : Int32 → Mem → Prop}  (a1 a2 : Int32) {g : Mem} (h : (((g 27 62) ≤ a2 → P a1 g) ∧ (¬ ((g 27 62) ≤ a2) → (vp_in (63 + (2 * a2)) 81 ∧ (vp_in ((63 + (2 * a2)) + 1) 81 ∧ (vp_in ((10 * (g 27 (63 + (2 * a2)).toNatClampNeg)) + (g 27 ((63 + (2 * a2)) + 1).toNatClampNeg)) 100 ∧ ((¬ (g 31 ((10 * (g 27 (63 + (2 * a2)).toNatClampNeg)) + (g 27 ((63 + (2 * a2)) + 1).toNatClampNeg)).toNatClampNeg) = (-9) → AW Γ 1 iX7_violations P 4 [some (.inr 26), some (.inl (a1 + 1)), some (.inl (a2 + 1))] [] g) ∧ ((g 31 ((10 * (g 27 (63 + (2 * a2)).toNatClampNeg)) + (g 27 ((63 + (2 * a2)) + 1).toNatClampNeg)).toNatClampNeg) = (-9) → AW Γ 1 iX7_violations P 4 [some (.inr 26), some (.inl (a1 + 0)), some (.inl (a2 + 1))] [] g)))))))) : AW Γ 1 iX7_violations P 4 [some (.inr 26), some (.inl a1), some (.inl a2)] [] g :=
  (aw_iload_n dX7_violations_4 rfl (aw_aload_n dX7_violations_5 rfl (aw_getr 27 fkX7_7 fa_26_1 dX7_violations_6 (aw_bipush 62 dX7_violations_9 (by decide) (aw_iald aa_27 dX7_violations_11 (vp_lit 62 (by decide) (by decide)) (aw_icmp_ge 67 dX7_violations_12 (by decide) (fun c1 => (aw_iload_n dX7_violations_67 rfl (aw_iret rfl (vp_nar_int _) dX7_violations_68 (h.1 c1)))) (fun c1 => (aw_iload_n dX7_violations_15 rfl (aw_aload_n dX7_violations_16 rfl (aw_getr 31 fkX7_22 fa_26_12 dX7_violations_17 (aw_bipush 10 dX7_violations_20 (by decide) (aw_aload_n dX7_violations_22 rfl (aw_getr 27 fkX7_7 fa_26_1 dX7_violations_23 (aw_bipush 63 dX7_violations_26 (by decide) (aw_iconst 2 dX7_violations_28 (by decide) (aw_iload_n dX7_violations_29 rfl (aw_imul dX7_violations_30 (aw_iadd dX7_violations_31 (aw_iald aa_27 dX7_violations_32 (h.2 c1).1 (aw_imul dX7_violations_33 (aw_aload_n dX7_violations_34 rfl (aw_getr 27 fkX7_7 fa_26_1 dX7_violations_35 (aw_bipush 63 dX7_violations_38 (by decide) (aw_iconst 2 dX7_violations_40 (by decide) (aw_iload_n dX7_violations_41 rfl (aw_imul dX7_violations_42 (aw_iadd dX7_violations_43 (aw_iconst 1 dX7_violations_44 (by decide) (aw_iadd dX7_violations_45 (aw_iald aa_27 dX7_violations_46 (h.2 c1).2.1 (aw_iadd dX7_violations_47 (aw_iald aa_31 dX7_violations_48 (h.2 c1).2.2.1 (aw_bipush (-9) dX7_violations_49 (by decide) (aw_icmp_ne 58 dX7_violations_51 (by decide) (fun c2 => (aw_iconst 1 dX7_violations_58 (by decide) (aw_iadd dX7_violations_59 (aw_istore_n [some (.inr 26), some (.inl (a1 + 1)), some (.inl a2)] dX7_violations_60 (by decide) rfl (aw_iinc (a2 + 1) [some (.inr 26), some (.inl (a1 + 1)), some (.inl (a2 + 1))] dX7_violations_61 rfl (by rfl) (by decide) rfl (aw_goto 4 dX7_violations_64 (by decide) (aw_mask [true, true, true] rfl ((h.2 c1).2.2.2.1 c2)))))))) (fun c2 => (aw_iconst 0 dX7_violations_54 (by decide) (aw_goto 59 dX7_violations_55 (by decide) (aw_iadd dX7_violations_59 (aw_istore_n [some (.inr 26), some (.inl (a1 + 0)), some (.inl a2)] dX7_violations_60 (by decide) rfl (aw_iinc (a2 + 1) [some (.inr 26), some (.inl (a1 + 0)), some (.inl (a2 + 1))] dX7_violations_61 rfl (by rfl) (by decide) rfl (aw_goto 4 dX7_violations_64 (by decide) (aw_mask [true, true, true] rfl ((h.2 c1).2.2.2.2 c2)))))))))))))))))))))))))))))))))))))))))))
theorem lp_X7_violations {Γ : Gam} {P : Int32 → Mem → Prop} {s : St} {g : Mem} {E : Rel} (h : MW 27 s g) (hE : ∀ a b, a < s 0 → b < s 0 → (g 31 (10 * a + b) = -9 ↔ E a b = false)) (hP : P (nI (vio s E (s 62))) g) : ∀ n k, k + n = s 62 → AW Γ 1 iX7_violations P 4 [some (.inr 26), some (.inl (nI (vio s E k))), some (.inl (nI k))] [] g := by
  intro n
  have hq := h.2.nq
  have hn := h.2.n
  induction n with
  | zero =>
    intro k hk
    refine sg_X7_violations_4 _ _ ?_
    rw [h.at (show 62 < 81 by decide)]
    refine ⟨fun _ => ?_, fun c => absurd (nI_le (by omega) (by omega)) c⟩
    rw [show s 62 = k by omega] at hP
    exact hP
  | succ n ih =>
    intro k hk
    obtain ⟨r1, r2⟩ := h.2.rq (k := k) (by omega)
    refine sg_X7_violations_4 _ _ ?_
    have hih := ih (k + 1) (by omega)
    rw [vio] at hih
    rw [h.at (show 62 < 81 by decide), n63, nI_1, ix_nI (n := 63 + 2 * k) (by omega), ix_nI (n := 63 + 2 * k + 1) (by omega), h.at (show 63 + 2 * k < 81 by omega), h.at (show 63 + 2 * k + 1 < 81 by omega), pair_nI', ix_nI (by omega), hE _ _ r1 r2, nI_1, nI_1]
    refine ⟨fun c => absurd c (nI_ge (by omega) (by omega)), fun _ => ⟨vp_nI (by omega) (by decide), vp_nI (by omega) (by decide), vp_nI (by omega) (by decide), fun c => ?_, fun c => ?_⟩⟩
    · rw [if_pos (by simpa using c)] at hih
      exact hih
    · rw [if_neg (by rw [c]; decide)] at hih
      rw [show nI (vio s E k) + 0 = nI (vio s E k + 0) from nI_add _ 0]
      exact hih
theorem ct_X7_violations {Γ : Gam} {s : St} {g : Mem} {rem : Nat} (h : MW 27 s g) (hA : AnM s rem g) : Runs Γ 1 yX7_violations iX7_violations [.inr 26] g (fun r g' => r = nI (vio s (fnd s rem) (s 62)) ∧ g' = g) := by
  have hL := LR_le h.2 rem
  exact Runs.intro (by decide) rfl (Nat.le_of_ble_eq_true rfl) (sg_X7_violations_0 (lp_X7_violations (E := fnd s rem) h (fun a b ha hb => by rw [hA.1 a b ha hb]; exact fr_no (by omega)) ⟨rfl, rfl⟩ (s 62) 0 (by omega)))
theorem sg_X7_violationCount_0 {Γ : Gam} {P : Int32 → Mem → Prop}  {g : Mem} (h : (Runs Γ 10 yX7_analyse iX7_analyse [.inr 26, .inl 0] (up g 26 0 0) (fun r1 g1 => (Runs Γ 1 yX7_violations iX7_violations [.inr 26] g1 (fun r2 g2 => P r2 g2))))) : AW Γ 11 iX7_violationCount P 0 [some (.inr 26)] [] g :=
  (aw_aload_n dX7_violationCount_0 rfl (aw_iconst 0 dX7_violationCount_1 (by decide) (aw_putf fpX7_32 fa_26_0 (vp_nar_int _) rfl dX7_violationCount_2 (aw_aload_n dX7_violationCount_5 rfl (aw_iconst 0 dX7_violationCount_6 (by decide) (aw_callVv lkX7_163 ckX7_analyse ca_26 rfl (d := 10) (by decide) [.inl 0] rfl rfl (Nat.le_of_ble_eq_true rfl) dX7_violationCount_7 rfl (Runs.mono h (fun r1 g1 h1_ => (aw_aload_n dX7_violationCount_10 rfl (aw_callVi lkX7_191 ckX7_violations ca_26 rfl (d := 1) (by decide) [] rfl rfl (Nat.le_of_ble_eq_true rfl) dX7_violationCount_11 rfl (Runs.mono h1_ (fun r2 g2 h2_ => (aw_iret rfl (vp_nar_int _) dX7_violationCount_14 h2_)))))))))))))
theorem om_violationCount {Γ : Gam} {a : Ab} {g : Mem} (h : MI a g) (hw : WA a) : Runs Γ 11 yX7_violationCount iX7_violationCount [.inr 26] g (OpM (nI (vio a.1 (fnd a.1 0) (a.1 62)), a) g) := by
  refine Runs.intro (by decide) rfl (Nat.le_of_ble_eq_true rfl) (sg_X7_violationCount_0 ((ct_X7_analyse (h.thr.s hw) (rem := 0) (by decide)).mono (fun r g1 q => ?_)))
  exact Runs.fn (ct_X7_violations ((h.thr.an q.1).s hw) q.2) (OpM.an h q.1)
