/-! Keywords and numbers; the reference's reader of tokens. -/
def mtc (c : Nat → Nat) : Nat → List Nat → Bool
  | _, [] => true
  | f, x :: l => decide (c f = x) && mtc c (f + 1) l
def isw (c : Nat → Nat) (f b : Nat) (l : List Nat) : Bool := decide (b - f = l.length) && mtc c f l
/-- the keyword of a word: 0 agent, 1 box, 2 key, 3 factory, 4 hold; 9 none -/
def kwd (c : Nat → Nat) (f b : Nat) : Nat := if isw c f b [97, 103, 101, 110, 116] then 0 else if isw c f b [98, 111, 120] then 1 else if isw c f b [107, 101, 121] then 2 else if isw c f b [102, 97, 99, 116, 111, 114, 121] then 3 else if isw c f b [104, 111, 108, 100] then 4 else 9
/-- the value of a number; 100 if it has a leading 0 or more than two digits -/
def nv (c : Nat → Nat) (f b : Nat) : Nat := if b - f = 1 then c f - 48 else if b - f = 2 ∧ ¬ c f = 48 then 10 * (c f - 48) + (c (f + 1) - 48) else 100
theorem sg_X7_characterAt_0 {Γ : Gam} {P : Int32 → Mem → Prop}  (a1 : Int32) {g : Mem} (h : (((g 26 6) ≤ a1 → P (-1) g) ∧ (¬ ((g 26 6) ≤ a1) → (vp_in a1 160 ∧ P (g 30 a1.toNatClampNeg) g)))) : AW Γ 1 iX7_characterAt P 0 [some (.inr 26), some (.inl a1)] [] g :=
  (aw_iload_n dX7_characterAt_0 rfl (aw_aload_n dX7_characterAt_1 rfl (aw_geti fkX7_36 fa_26_6 dX7_characterAt_2 (aw_icmp_ge 17 dX7_characterAt_5 (by decide) (fun c1 => (aw_iconst (-1) dX7_characterAt_17 (by decide) (aw_iret rfl (vp_nar_int _) dX7_characterAt_18 (h.1 c1)))) (fun c1 => (aw_aload_n dX7_characterAt_8 rfl (aw_getr 30 fkX7_19 fa_26_5 dX7_characterAt_9 (aw_iload_n dX7_characterAt_12 rfl (aw_iald aa_30 dX7_characterAt_13 (h.2 c1).1 (aw_goto 18 dX7_characterAt_14 (by decide) (aw_iret rfl (vp_nar_int _) dX7_characterAt_18 (h.2 c1).2)))))))))))
theorem ct_X7_characterAt {Γ : Gam} {L : Nat} {c : Nat → Nat} {g : Mem} {i : Nat} (hL : L ≤ 160) (hT : TM L c g) (hi : i < 2 ^ 31) : Runs Γ 1 yX7_characterAt iX7_characterAt [.inr 26, .inl (nI i)] g (fun r g' => r = (if i < L then nI (c i) else -1) ∧ g' = g) := by
  refine Runs.intro (by decide) rfl (Nat.le_of_ble_eq_true rfl) (sg_X7_characterAt_0 _ ?_)
  rw [hT.1, nI_leI (by omega) hi, ix_nI hi]
  refine ⟨fun d => by rw [if_neg (by omega)]; exact ⟨rfl, rfl⟩, fun d => ⟨vp_nI (by omega) (by decide), ?_⟩⟩
  rw [if_pos (by omega), hT.2 i (by omega)]
  exact ⟨rfl, rfl⟩
theorem sg_X7_isFine_0 {Γ : Gam} {P : Int32 → Mem → Prop}  {g : Mem} (h : ((¬ (g 26 11) = (-9) → P 0 g) ∧ ((g 26 11) = (-9) → P 1 g))) : AW Γ 1 iX7_isFine P 0 [some (.inr 26)] [] g :=
  (aw_aload_n dX7_isFine_0 rfl (aw_geti fkX7_67 fa_26_11 dX7_isFine_1 (aw_bipush (-9) dX7_isFine_4 (by decide) (aw_icmp_ne 13 dX7_isFine_6 (by decide) (fun c1 => (aw_iconst 0 dX7_isFine_13 (by decide) (aw_iret rfl (by decide) dX7_isFine_14 (h.1 c1)))) (fun c1 => (aw_iconst 1 dX7_isFine_9 (by decide) (aw_goto 14 dX7_isFine_10 (by decide) (aw_iret rfl (by decide) dX7_isFine_14 (h.2 c1)))))))))
theorem ct_X7_isFine {Γ : Gam} {g : Mem} : Runs Γ 1 yX7_isFine iX7_isFine [.inr 26] g (fun r g' => r = bi (decide (g 26 11 = -9)) ∧ g' = g) := by
  refine Runs.intro (by decide) rfl (Nat.le_of_ble_eq_true rfl) (sg_X7_isFine_0 ⟨fun d => ?_, fun d => ?_⟩)
  · rw [decide_eq_false d]; exact ⟨rfl, rfl⟩
  · rw [decide_eq_true d]; exact ⟨rfl, rfl⟩
theorem sg_X7_isLetter_0 {Γ : Gam} {P : Int32 → Mem → Prop}  (a1 a2 : Int32) {g : Mem} (h : (((g 26 7) ≤ ((g 26 8) + a1) → P 0 g) ∧ (¬ ((g 26 7) ≤ ((g 26 8) + a1)) → (vp_in ((g 26 8) + a1) 160 ∧ ((¬ (g 30 ((g 26 8) + a1).toNatClampNeg) = a2 → P 0 g) ∧ ((g 30 ((g 26 8) + a1).toNatClampNeg) = a2 → P 1 g)))))) : AW Γ 1 iX7_isLetter P 0 [some (.inr 26), some (.inl a1), some (.inl a2)] [] g :=
  (aw_aload_n dX7_isLetter_0 rfl (aw_geti fkX7_39 fa_26_8 dX7_isLetter_1 (aw_iload_n dX7_isLetter_4 rfl (aw_iadd dX7_isLetter_5 (aw_aload_n dX7_isLetter_6 rfl (aw_geti fkX7_42 fa_26_7 dX7_isLetter_7 (aw_icmp_ge 32 dX7_isLetter_10 (by decide) (fun c1 => (aw_iconst 0 dX7_isLetter_32 (by decide) (aw_iret rfl (by decide) dX7_isLetter_33 (h.1 c1)))) (fun c1 => (aw_aload_n dX7_isLetter_13 rfl (aw_getr 30 fkX7_19 fa_26_5 dX7_isLetter_14 (aw_aload_n dX7_isLetter_17 rfl (aw_geti fkX7_39 fa_26_8 dX7_isLetter_18 (aw_iload_n dX7_isLetter_21 rfl (aw_iadd dX7_isLetter_22 (aw_iald aa_30 dX7_isLetter_23 (h.2 c1).1 (aw_iload_n dX7_isLetter_24 rfl (aw_icmp_ne 32 dX7_isLetter_25 (by decide) (fun c2 => (aw_iconst 0 dX7_isLetter_32 (by decide) (aw_iret rfl (by decide) dX7_isLetter_33 ((h.2 c1).2.1 c2)))) (fun c2 => (aw_iconst 1 dX7_isLetter_28 (by decide) (aw_goto 33 dX7_isLetter_29 (by decide) (aw_iret rfl (by decide) dX7_isLetter_33 ((h.2 c1).2.2 c2))))))))))))))))))))))
theorem ct_X7_isLetter {Γ : Gam} {L : Nat} {c : Nat → Nat} {g : Mem} {f b k x : Nat} (hL : L ≤ 160) (hc : ∀ j, j < L → c j ≤ 255) (hT : TM L c g) (h8 : g 26 8 = nI f) (h7 : g 26 7 = nI b) (hb : b ≤ L) (hk : f + k < b) (hx : x < 2 ^ 31) : Runs Γ 1 yX7_isLetter iX7_isLetter [.inr 26, .inl (nI k), .inl (nI x)] g (fun r g' => r = bi (decide (c (f + k) = x)) ∧ g' = g) := by
  have hck := hc (f + k) (by omega)
  refine Runs.intro (by decide) rfl (Nat.le_of_ble_eq_true rfl) (sg_X7_isLetter_0 _ _ ?_)
  rw [h7, h8, nI_add, ix_nI (n := f + k) (by omega), hT.2 (f + k) (by omega), nI_eq (by omega) hx]
  refine ⟨fun d => absurd d (nI_ge hk (by omega)), fun _ => ⟨vp_nI (by omega) (by decide), fun d => ?_, fun d => ?_⟩⟩
  · rw [decide_eq_false d]; exact ⟨rfl, rfl⟩
  · rw [decide_eq_true d]; exact ⟨rfl, rfl⟩
