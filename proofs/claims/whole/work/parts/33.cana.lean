/-! The class's analysis, whole. -/
/-- what stands in the memory behind round r -/
def Az (s : St) (r : Nat) (g : Mem) : Prop := Ae s (it s 0 r) g ∧ ∀ a b, a < s 0 → b < s 0 → g 15 (10 * a + b) = fr_ s 0 a b (r + 1) ∧ (it s 0 r a b = false → g 16 (10 * a + b) = -9 ∧ g 17 (10 * a + b) = -9) ∧ (it s 0 0 a b = true → g 16 (10 * a + b) = 0 ∧ g 17 (10 * a + b) = -9) ∧ ∀ t, t < r → it s 0 t a b = false → it s 0 (t + 1) a b = true → cz s (it s 0 t) a b g
theorem fr_nw {s : St} {a b r : Nat} (h0 : it s 0 r a b = false) (h1 : it s 0 (r + 1) a b = true) : fr_ s 0 a b (r + 1 + 1) = nI (r + 1) := by
  refine fI_at (ff_eq (Nat.zero_le _) (by omega) h1 (fun k _ hk => ?_)) (by omega)
  cases e : it s 0 k a b with
  | false => rfl
  | true => rw [it_le (show k ≤ r by omega) e] at h0; cases h0
theorem fr_old {s : St} {a b r : Nat} (hr : r + 1 < 2 ^ 31) (h : it s 0 (r + 1) a b = it s 0 r a b) : fr_ s 0 a b (r + 1 + 1) = fr_ s 0 a b (r + 1) := by
  cases e : it s 0 r a b with
  | false =>
    rw [(fr_no (r := r + 1) (by omega)).mpr (by rw [h]; exact e), (fr_no (r := r) (by omega)).mpr e]
  | true =>
    have q := (fr_yes e).2
    unfold fr_ fI
    rw [ff_ext (p := fun t => it s 0 t a b) (n := r + 1) (by omega), if_pos (by omega), if_pos (by omega)]
theorem nw_it {s : St} {r a b : Nat} (ha : a < s 0) (hb : b < s 0) : it s 0 (r + 1) a b = (it s 0 r a b || nw s (it s 0 r) a b) := by
  show nxt s (it s 0 r) a b = _
  unfold nxt nw
  rw [decide_eq_true ha, decide_eq_true hb]
  cases it s 0 r a b <;> simp
theorem Az_back {s : St} {r : Nat} {g : Mem} (hw : WF s) (hr : r + 1 < 2 ^ 31) (hs : stb s 0 r = true) (h : Az s (r + 1) g) : Az s r g := by
  have e := stb_eq hw hs
  refine ⟨by rw [← e]; exact h.1, fun a b ha hb => ?_⟩
  obtain ⟨h1, h2, h3, h4⟩ := h.2 a b ha hb
  refine ⟨?_, fun c => h2 (by rw [e]; exact c), h3, fun t ht => h4 t (by omega)⟩
  rw [h1, fr_old hr (by rw [e])]
theorem ct_X0_findRound {Γ : Gam} {s : St} {g : Mem} {r : Nat} (hw : WF s) (hr : r < 101) (h : Az s r g) : Runs Γ 4 yX0_findRound iX0_findRound [.inr 12, .inr 6, .inl (nI (r + 1))] g (fun v g' => v = bi (!stb s 0 r) ∧ Az s (r + 1) g' ∧ ∀ k, (k < 13 ∨ 19 < k) → g' k = g k) := by
  have hn := hw.n
  have h15 : ∀ a b, a < s 0 → b < s 0 → (g 15 (10 * a + b) = -9 ↔ it s 0 r a b = false) := by
    intro a b ha hb
    rw [(h.2 a b ha hb).1]
    exact fr_no (by omega)
  have hS0 : Sc s (it s 0 r) (r + 1) g 0 0 false g := by
    refine ⟨fun _ _ => rfl, fun x y _ _ => ⟨fun c => ?_, fun _ _ => rfl⟩, ⟨fun c => Bool.noConfusion c, fun ⟨x, y, _, _, c⟩ => ?_⟩⟩
    · rw [pR_0] at c; cases c
    · rw [pR_0] at c; cases c
  have hE : ∀ f g1, Sc s (it s 0 r) (r + 1) g (s 0) 0 f g1 → Runs Γ 2 yX0_publish iX0_publish [.inr 12, .inl (nI (s 0)), .inl (nI (r + 1))] g1 (fun _ g2 => bi f = bi (!stb s 0 r) ∧ Az s (r + 1) g2 ∧ ∀ k, (k < 13 ∨ 19 < k) → g2 k = g k) := by
    intro f g1 hS
    have hA : Ae s (it s 0 r) g1 := h.1.ext (fun k k1 k2 => hS.1 k (by omega))
    have g15 : ∀ a b, a < s 0 → b < s 0 → (g1 15 (10 * a + b) = nI (r + 1) ↔ nw s (it s 0 r) a b = true) := by
      intro a b ha hb
      obtain ⟨q1, q2⟩ := hS.2.1 a b ha hb
      rw [pR_end ha] at q1 q2
      cases e : nw s (it s 0 r) a b with
      | true => exact ⟨fun _ => rfl, fun _ => (q1 e).1⟩
      | false =>
        refine ⟨fun c => ?_, fun c => Bool.noConfusion c⟩
        rw [q2 e 15, (h.2 a b ha hb).1] at c
        cases e2 : it s 0 r a b with
        | false =>
          rw [(fr_no (by omega)).mpr e2] at c
          exact absurd c.symm (nI_ne_neg (by omega) (by decide))
        | true =>
          have q := fr_yes e2
          rw [q.1, nI_eq (by omega) (by omega)] at c
          omega
    refine (ct_X0_publish (E := it s 0 r) (R := nw s (it s 0 r)) hw hA.2.1 hA.2.2 g15).mono (fun _ g2 q => ?_)
    have ek : ∀ k, k ≠ 13 → k ≠ 14 → g2 k = g1 k := q.1
    have ef : bi f = bi (!stb s 0 r) := by
      congr 1
      cases e : stb s 0 r with
      | true =>
        cases ef : f with
        | false => rfl
        | true =>
          obtain ⟨x, y, hx, hy, c⟩ := hS.2.2.mp ef
          rw [pR_end hx] at c
          have e1 := nw_it (r := r) hx hy
          rw [stb_eq hw e, c, Bool.or_true] at e1
          unfold nw at c
          rw [e1] at c
          cases c
      | false =>
        cases ef : f with
        | true => rfl
        | false =>
          obtain ⟨x, y, hx, hy, c0, c1⟩ := stb_no e
          rw [nw_it hx hy, c0, Bool.false_or] at c1
          have := hS.2.2.mpr ⟨x, y, hx, hy, by rw [pR_end hx]; exact c1⟩
          rw [ef] at this
          cases this
    refine ⟨ef, ⟨⟨?_, fun x hx => ?_, fun y hy => ?_⟩, fun a b ha hb => ?_⟩, fun k hk => by rw [ek k (by omega) (by omega), hS.1 k (by omega)]⟩
    · have hR := hA.1
      unfold RolesOk at hR ⊢
      rw [ek 6 (by decide) (by decide), ek 7 (by decide) (by decide), ek 8 (by decide) (by decide), ek 9 (by decide) (by decide), ek 10 (by decide) (by decide), ek 11 (by decide) (by decide)]
      exact hR
    · rw [q.2.1 x hx]; exact congrArg nI (msk_cong (fun y hy => (nw_it hx hy).symm))
    · rw [q.2.2 y hy]; exact congrArg nI (msk_cong (fun x hx => (nw_it hx hy).symm))
    · obtain ⟨q1, q2⟩ := hS.2.1 a b ha hb
      rw [pR_end ha] at q1 q2
      obtain ⟨o1, o2, o3, o4⟩ := h.2 a b ha hb
      rw [ek 15 (by decide) (by decide), ek 16 (by decide) (by decide), ek 17 (by decide) (by decide)]
      have ei := nw_it (r := r) ha hb
      cases e : nw s (it s 0 r) a b with
      | true =>
        have e0 : it s 0 r a b = false := by
          unfold nw at e
          rw [Bool.and_eq_true, Bool.not_eq_true'] at e
          exact e.1
        rw [e, Bool.or_true] at ei
        have hc := (q1 e).2
        refine ⟨by rw [(q1 e).1, fr_nw e0 ei], fun c => ?_, fun c => ?_, fun t ht t0 t1 => ?_⟩
        · rw [ei] at c; cases c
        · rw [it_le (Nat.zero_le r) c] at e0; cases e0
        · by_cases et : t = r
          · subst et
            exact hc.ext (fun k k1 k2 => by rw [ek k (by omega) (by omega)])
          · rw [it_le (show t + 1 ≤ r by omega) t1] at e0; cases e0
      | false =>
        rw [e, Bool.or_false] at ei
        have u := q2 e
        rw [u 15, u 16, u 17]
        refine ⟨by rw [o1, fr_old (by omega) ei], fun c => o2 (by rw [← ei]; exact c), o3, fun t ht t0 t1 => ?_⟩
        by_cases et : t = r
        · subst et
          rw [ei, t0] at t1; cases t1
        · exact (o4 t (by omega) t0 t1).ext (fun k k1 k2 => by rw [ek k (by omega) (by omega), u k])
  exact Runs.intro (by decide) rfl (Nat.le_of_ble_eq_true rfl) (sg_X0_findRound_0 _ (lp_X0_fr5 hw h.1 h15 hE (s 0) 0 false g (by omega) hS0))
theorem Az_Ana {s : St} {g : Mem} (hw : WF s) (h : Az s (LR s 0) g) (hl : g 12 7 = nI (LR s 0)) : AnaOk s g := by
  refine ⟨h.1.2.1, fun a b ha hb => ?_, hl⟩
  obtain ⟨h1, h2, h3, h4⟩ := h.2 a b ha hb
  cases e : fnd s 0 a b with
  | false =>
    obtain ⟨x1, x2⟩ := h2 e
    refine ⟨h1, ?_, ?_, fun c => Bool.noConfusion c⟩
    · unfold ruI; rw [e, if_neg (by decide)]; exact x1
    · unfold paI; rw [e, if_neg (by decide)]; exact x2
  | true =>
    obtain ⟨y1, y2, y3, y4⟩ := rnd_yes e
    by_cases e0 : rnd s 0 a b = 0
    · rw [e0] at y2
      obtain ⟨x1, x2⟩ := h3 y2
      refine ⟨h1, ?_, ?_, fun _ c => absurd e0 c⟩
      · unfold ruI; rw [e, if_pos rfl, if_pos e0]; exact x1
      · unfold paI; rw [e, if_pos rfl, if_pos e0]; exact x2
    · have hc := h4 (rnd s 0 a b - 1) (by omega) (y3 _ (by omega)) (by rw [show rnd s 0 a b - 1 + 1 = rnd s 0 a b by omega]; exact y2)
      have hc' : cz s (bef s a b) a b g := hc
      obtain ⟨z1, z2, z3, z4⟩ := hc'
      refine ⟨h1, ?_, ?_, fun _ _ => ⟨z3, fun c => ?_, fun c => ?_⟩⟩
      · unfold ruI; rw [e, if_pos rfl, if_neg e0]; exact z1
      · unfold paI; rw [e, if_pos rfl, if_neg e0]; exact z2
      · rw [z4]; exact if_pos c
      · rw [z4]; exact if_neg c
theorem LR_of {s : St} {r : Nat} (hr : r ≤ LR s 0) (h : stb s 0 r = true) : r = LR s 0 := by
  rcases Nat.lt_or_ge r (LR s 0) with q | q
  · rw [LR_no q] at h; cases h
  · omega
theorem Az.ext {s : St} {r : Nat} {g g' : Mem} (h : Az s r g) (he : ∀ k, 6 ≤ k → k < 20 → k ≠ 12 → g' k = g k) : Az s r g' := by
  refine ⟨?_, fun a b ha hb => ?_⟩
  · have h1 := h.1
    unfold Ae RolesOk at h1 ⊢
    rw [he 6 (by decide) (by decide) (by decide), he 7 (by decide) (by decide) (by decide), he 8 (by decide) (by decide) (by decide), he 9 (by decide) (by decide) (by decide), he 10 (by decide) (by decide) (by decide), he 11 (by decide) (by decide) (by decide), he 13 (by decide) (by decide) (by decide), he 14 (by decide) (by decide) (by decide)]
    exact h1
  · obtain ⟨h1, h2, h3, h4⟩ := h.2 a b ha hb
    rw [he 15 (by decide) (by decide) (by decide), he 16 (by decide) (by decide) (by decide), he 17 (by decide) (by decide) (by decide)]
    exact ⟨h1, h2, h3, fun t ht t0 t1 => (h4 t ht t0 t1).ext (fun k k1 k2 => by rw [he k (by omega) (by omega) (by omega)])⟩
theorem sg_X0_findAll_0 {Γ : Gam} {P : Int32 → Mem → Prop}  {g : Mem} (h : (Runs Γ 2 yX4_fillInitialRows iX4_fillInitialRows [.inr 34, .inr 13, .inl 0] (fil (fil (fil (fil g 15 100 (-9)) 16 100 (-9)) 17 100 (-9)) 14 10 0) (fun r1 g1 => (Runs Γ 2 yX0_findInitial iX0_findInitial [.inr 12, .inl (g1 6 0)] g1 (fun r2 g2 => AW Γ 5 iX0_findAll P 59 [some (.inr 12), some (.inr 6), none, some (.inl 1)] [] (up g2 12 7 0)))))) : AW Γ 5 iX0_findAll P 0 [some (.inr 12), some (.inr 6), some (.inr 34)] [] g :=
  (aw_aload_n dX0_findAll_0 rfl (aw_getr 15 fkX0_18 fa_12_2 dX0_findAll_1 (aw_bipush (-9) dX0_findAll_4 (by decide) (aw_callSv lkX0_46 ckJ7_fill_53178 (d := 1) (by decide) [.inr 15, .inl (-9)] rfl rfl (Nat.le_of_ble_eq_true rfl) dX0_findAll_6 rfl (Runs.fn (ct_J7_fill aa_15 (by decide)) (aw_aload_n dX0_findAll_9 rfl (aw_getr 16 fkX0_21 fa_12_3 dX0_findAll_10 (aw_bipush (-9) dX0_findAll_13 (by decide) (aw_callSv lkX0_46 ckJ7_fill_53178 (d := 1) (by decide) [.inr 16, .inl (-9)] rfl rfl (Nat.le_of_ble_eq_true rfl) dX0_findAll_15 rfl (Runs.fn (ct_J7_fill aa_16 (by decide)) (aw_aload_n dX0_findAll_18 rfl (aw_getr 17 fkX0_24 fa_12_4 dX0_findAll_19 (aw_bipush (-9) dX0_findAll_22 (by decide) (aw_callSv lkX0_46 ckJ7_fill_53178 (d := 1) (by decide) [.inr 17, .inl (-9)] rfl rfl (Nat.le_of_ble_eq_true rfl) dX0_findAll_24 rfl (Runs.fn (ct_J7_fill aa_17 (by decide)) (aw_aload_n dX0_findAll_27 rfl (aw_getr 14 fkX0_15 fa_12_1 dX0_findAll_28 (aw_iconst 0 dX0_findAll_31 (by decide) (aw_callSv lkX0_46 ckJ7_fill_53178 (d := 1) (by decide) [.inr 14, .inl 0] rfl rfl (Nat.le_of_ble_eq_true rfl) dX0_findAll_32 rfl (Runs.fn (ct_J7_fill aa_14 (by decide)) (aw_aload_n dX0_findAll_35 rfl (aw_aload_n dX0_findAll_36 rfl (aw_getr 13 fkX0_9 fa_12_0 dX0_findAll_37 (aw_iconst 0 dX0_findAll_40 (by decide) (aw_callVv lkX0_52 ckX4_fillInitialRows (cs_ isSt_34) rfl (d := 2) (by decide) [.inr 13, .inl 0] rfl rfl (Nat.le_of_ble_eq_true rfl) dX0_findAll_41 rfl (Runs.mono h (fun r1 g1 h1_ => (aw_aload_n dX0_findAll_44 rfl (aw_aload_n dX0_findAll_45 rfl (aw_geti fkX0_57 fa_6_0 dX0_findAll_46 (aw_callVv lkX0_62 ckX0_findInitial ca_12 rfl (d := 2) (by decide) [.inl (g1 6 0)] rfl rfl (Nat.le_of_ble_eq_true rfl) dX0_findAll_49 rfl (Runs.mono h1_ (fun r2 g2 h2_ => (aw_aload_n dX0_findAll_52 rfl (aw_iconst 0 dX0_findAll_53 (by decide) (aw_putf fpX0_33 fa_12_7 (vp_nar_int _) rfl dX0_findAll_54 (aw_iconst 1 dX0_findAll_57 (by decide) (aw_istore_n [some (.inr 12), some (.inr 6), some (.inr 34), some (.inl 1)] dX0_findAll_58 (by decide) rfl (aw_mask [true, true, false, true] rfl h2_)))))))))))))))))))))))))))))))))))))))
theorem sg_X0_findAll_59 {Γ : Gam} {P : Int32 → Mem → Prop}  (a3 : Int32) {g : Mem} (h : ((100 < a3 → P 0 g) ∧ (¬ (100 < a3) → (Runs Γ 4 yX0_findRound iX0_findRound [.inr 12, .inr 6, .inl a3] g (fun r1 g1 => ((r1 = 0 → P 0 g1) ∧ (¬ r1 = 0 → AW Γ 5 iX0_findAll P 59 [some (.inr 12), some (.inr 6), none, some (.inl (a3 + 1))] [] (up g1 12 7 a3)))))))) : AW Γ 5 iX0_findAll P 59 [some (.inr 12), some (.inr 6), none, some (.inl a3)] [] g :=
  (aw_iload_n dX0_findAll_59 rfl (aw_bipush 100 dX0_findAll_60 (by decide) (aw_icmp_gt 85 dX0_findAll_62 (by decide) (fun c1 => (aw_vret rfl dX0_findAll_85 (h.1 c1))) (fun c1 => (aw_aload_n dX0_findAll_65 rfl (aw_aload_n dX0_findAll_66 rfl (aw_iload_n dX0_findAll_67 rfl (aw_callVi lkX0_66 ckX0_findRound ca_12 rfl (d := 4) (by decide) [.inr 6, .inl a3] rfl rfl (Nat.le_of_ble_eq_true rfl) dX0_findAll_68 rfl (Runs.mono (h.2 c1) (fun r1 g1 h1_ => (aw_if_eq 85 dX0_findAll_71 (by decide) (fun c2 => (aw_vret rfl dX0_findAll_85 (h1_.1 c2))) (fun c2 => (aw_aload_n dX0_findAll_74 rfl (aw_iload_n dX0_findAll_75 rfl (aw_putf fpX0_33 fa_12_7 (vp_nar_int _) rfl dX0_findAll_76 (aw_iinc (a3 + 1) [some (.inr 12), some (.inr 6), none, some (.inl (a3 + 1))] dX0_findAll_79 rfl (by rfl) (by decide) rfl (aw_goto 59 dX0_findAll_82 (by decide) (aw_mask [true, true, false, true] rfl (h1_.2 c2)))))))))))))))))))
theorem lp_X0_fa59 {Γ : Gam} {P : Int32 → Mem → Prop} {s : St} {g0 : Mem} (hw : WF s) (hP : ∀ g, RolesOk s g → AnaOk s g → (∀ k, (k < 12 ∨ 19 < k) → g k = g0 k) → P 0 g) : ∀ n r g, r + n = LR s 0 → Az s r g → g 12 7 = nI r → (∀ k, (k < 12 ∨ 19 < k) → g k = g0 k) → AW Γ 5 iX0_findAll P 59 [some (.inr 12), some (.inr 6), none, some (.inl (nI (r + 1)))] [] g := by
  intro n
  have hL := LR_le hw 0
  induction n with
  | zero =>
    intro r g hr hA hl hf
    have e : r = LR s 0 := by omega
    refine sg_X0_findAll_59 _ ?_
    refine ⟨fun _ => ?_, fun c => ?_⟩
    · rw [e] at hA hl
      exact hP g hA.1.1 (Az_Ana hw hA hl) hf
    · refine (ct_X0_findRound hw (by omega) hA).mono (fun v g1 q => ?_)
      obtain ⟨rfl, q1, q2⟩ := q
      have hs : stb s 0 r = true := by rw [e]; exact LR_stb hw 0
      have hA1 := Az_back hw (by omega) hs q1
      have hl1 : g1 12 7 = nI r := by rw [q2 12 (by decide)]; exact hl
      rw [hs]
      refine ⟨fun _ => ?_, fun c => absurd rfl c⟩
      rw [e] at hA1 hl1
      exact hP g1 hA1.1.1 (Az_Ana hw hA1 hl1) (fun k hk => by rw [q2 k (by omega), hf k hk])
  | succ n ih =>
    intro r g hr hA hl hf
    refine sg_X0_findAll_59 _ ?_
    refine ⟨fun c => ?_, fun c => ?_⟩
    · rw [show (100 : Int32) = nI 100 from rfl, nI_ltI (by omega) (by omega)] at c
      omega
    · refine (ct_X0_findRound hw (by omega) hA).mono (fun v g1 q => ?_)
      obtain ⟨rfl, q1, q2⟩ := q
      rw [LR_no (show r < LR s 0 by omega), nI_1]
      refine ⟨fun c => absurd c (by decide), fun _ => ?_⟩
      refine ih (r + 1) _ (by omega) (q1.ext (fun k _ _ k3 => up_ne k3)) (up_at _ _ _ _) (fun k hk => ?_)
      rw [up_ne (by omega), q2 k (by omega), hf k hk]
theorem ct_X0_findAll {Γ : Gam} {s : St} {g : Mem} (h : CW 34 s g) (hR : RolesOk s g) : Runs Γ 5 yX0_findAll iX0_findAll [.inr 12, .inr 6, .inr 34] g (fun _ g' => RolesOk s g' ∧ AnaOk s g' ∧ ∀ k, (k < 12 ∨ 19 < k) → g' k = g k) := by
  have hn := h.2.n
  refine Runs.intro (by decide) rfl (Nat.le_of_ble_eq_true rfl) (sg_X0_findAll_0 ?_)
  have f0 : ∀ k, k ≠ 14 → k ≠ 15 → k ≠ 16 → k ≠ 17 → fil (fil (fil (fil g 15 100 (-9)) 16 100 (-9)) 17 100 (-9)) 14 10 0 k = g k := fun k k1 k2 k3 k4 => by rw [fil_ne k1, fil_ne k4, fil_ne k3, fil_ne k2]
  have v14 : ∀ i, i < 10 → fil (fil (fil (fil g 15 100 (-9)) 16 100 (-9)) 17 100 (-9)) 14 10 0 14 i = 0 := fun i hi => fil_at hi
  have v15 : ∀ i, i < 100 → fil (fil (fil (fil g 15 100 (-9)) 16 100 (-9)) 17 100 (-9)) 14 10 0 15 i = -9 := fun i hi => by rw [fil_ne (by decide), fil_ne (by decide), fil_ne (by decide), fil_at hi]
  have v16 : ∀ i, i < 100 → fil (fil (fil (fil g 15 100 (-9)) 16 100 (-9)) 17 100 (-9)) 14 10 0 16 i = -9 := fun i hi => by rw [fil_ne (by decide), fil_ne (by decide), fil_at hi]
  have v17 : ∀ i, i < 100 → fil (fil (fil (fil g 15 100 (-9)) 16 100 (-9)) 17 100 (-9)) 14 10 0 17 i = -9 := fun i hi => by rw [fil_ne (by decide), fil_at hi]
  generalize fil (fil (fil (fil g 15 100 (-9)) 16 100 (-9)) 17 100 (-9)) 14 10 0 = g4 at f0 v14 v15 v16 v17 ⊢
  have h4 : CW 34 s g4 := ⟨h.1.ext (fun k k1 k2 => f0 k (by omega) (by omega) (by omega) (by omega)), h.2⟩
  refine (ct_X4_fillInitialRows (b := 34) (q := 13) (rem := 0) (by unfold isSt; decide) rfl (by decide) (by decide) (by decide) h4 (by decide)).mono (fun _ g5 q => ?_)
  have f5 : ∀ k, k ≠ 13 → g5 k = g4 k := q.1
  have e6 : g5 6 0 = nI (s 0) := by rw [f5 6 (by decide), f0 6 (by decide) (by decide) (by decide) (by decide)]; exact hR.1
  have h13 : ∀ a, a < s 0 → g5 13 a = nI (msk (ini s 0 a) (s 0)) := by
    intro a ha
    rw [q.2 a (by omega)]
    refine congrArg nI (msk_eq (fun j => ?_))
    show ini s 0 a j = _
    by_cases hj : j < s 0
    · rw [decide_eq_true hj]; rfl
    · rw [decide_eq_false hj]
      cases e : ini s 0 a j with
      | false => rfl
      | true => exact absurd (ini_in h.2 e).2 hj
  rw [e6]
  refine (ct_X0_findInitial h.2 h13 (fun b hb => by rw [f5 14 (by decide)]; exact v14 b (by omega)) (fun i hi => by rw [f5 15 (by decide)]; exact v15 i hi) (fun i hi => by rw [f5 16 (by decide)]; exact v16 i hi)).mono (fun _ g6 hI => ?_)
  have f6 : ∀ k, k ≠ 14 → k ≠ 15 → k ≠ 16 → g6 k = g5 k := hI.1
  have hA : Az s 0 g6 := by
    refine ⟨⟨?_, fun a ha => ?_, fun b hb => ?_⟩, fun a b ha hb => ?_⟩
    · have hr := hR
      unfold RolesOk at hr ⊢
      have ee : ∀ k, 6 ≤ k → k < 12 → g6 k = g k := fun k k1 k2 => by rw [f6 k (by omega) (by omega) (by omega), f5 k (by omega), f0 k (by omega) (by omega) (by omega) (by omega)]
      rw [ee 6 (by decide) (by decide), ee 7 (by decide) (by decide), ee 8 (by decide) (by decide), ee 9 (by decide) (by decide), ee 10 (by decide) (by decide), ee 11 (by decide) (by decide)]
      exact hr
    · rw [f6 13 (by decide) (by decide) (by decide)]; exact h13 a ha
    · rw [hI.2.1 b hb]; exact congrArg nI (msk_cong (fun x hx => pR_end hx))
    · obtain ⟨x1, x2⟩ := hI.2.2 a b ha hb
      rw [pR_end ha] at x1 x2
      have x3 : g6 17 (10 * a + b) = -9 := by rw [f6 17 (by decide) (by decide) (by decide), f5 17 (by decide)]; exact v17 _ (by omega)
      refine ⟨by rw [x1, fr_1], fun c => ⟨?_, x3⟩, fun c => ⟨?_, x3⟩, fun t ht => absurd ht (Nat.not_lt_zero _)⟩
      · rw [x2, show ini s 0 a b = false from c]; rfl
      · rw [x2, show ini s 0 a b = true from c]; rfl
  have hA2 : Az s 0 (up g6 12 7 0) := hA.ext (fun k _ _ k3 => up_ne k3)
  have hF : ∀ k, (k < 12 ∨ 19 < k) → up g6 12 7 0 k = g k := fun k hk => by rw [up_ne (by omega), f6 k (by omega) (by omega) (by omega), f5 k (by omega), f0 k (by omega) (by omega) (by omega) (by omega)]
  exact lp_X0_fa59 h.2 (fun g7 a1 a2 a3 => ⟨a1, a2, a3⟩) (LR s 0) 0 _ (by omega) hA2 (up_at _ _ _ _) hF
