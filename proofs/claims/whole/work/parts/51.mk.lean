/-! The constructors. -/
def wTex (cA : Nat → ClassId) (q : Nat → Nat) : va_W := [((q 0), Sum.inr (5, [.ref (q 1), .int 0, .int 0, .int 0, .int 0, .ref (q 2)])), ((q 1), Sum.inl (cA 0, 160, Sum.inl zf)), ((q 2), Sum.inl (cA 0, 3, Sum.inl zf))]
set_option maxHeartbeats 4000000 in
set_option maxRecDepth 100000 in
theorem mk_X5 {l : Launch} {D : va_G} {cA : Nat → ClassId} : Mk (S := Nat → Nat) l D cA yX5_init iX5_init 1 2 163 5 fsX5 (fun q => q 0) (wTex cA) := by
  intro h0 sz
  refine Met.ofW (cc := cX5_init) (maxL := 1) (ret := none) (by decide) rfl ?_
  intro p e s m args below meth c s₁ B hml hv
  obtain ⟨rfl, hsz, hP, hK⟩ := hv
  have hx := B.exec
  have hb := B.bytes
  have hr := B.returns
  have ht0 := atoms_spec (ws := wsG yX5_init iX5_init) B.pre
  have ht : ∀ w ∈ GW, w.before [Value.ref h0].toArray s = true := fun w hw => ht0 w (List.mem_cons_of_mem _ hw)
  have hown : s.vm.findClass RX5 = some m.cls := findClass_of_methodNamed B.named
  have hlocks := B.notSynchronized
  have hin : meth.name = "<init>" := (name_of_methodNamed B.named B.method).1
  subst hsz
  have hD := (nb_D1 (x := (h0, Sum.inr (5, fsX5)))).self (sz := s.heap.size)
  generalize hAe : va_A [(h0, Sum.inr (5, fsX5))] s.heap.size = A at hD ⊢
  have hA : ∀ q : Nat, s.heap.size ≤ q → A q := fun q h => by rw [← hAe]; exact Or.inr h
  have hS : va_S A s.heap s.heap [] := va_S.rf
  have hl := lv_entry ([.ref h0]) (n := 1) (Nat.le_of_ble_eq_true rfl)
  rw [lg_entry_eq]
  generalize (lg_sl ([.ref h0]) ++ List.replicate (1 - (lg_sl ([.ref h0])).length) Slot.unset).toArray = ls at hl ⊢
  have hl : lv_has ls 1 [(0, .ref h0)] := hl
  have hP : va_P D vwCl [(h0, Sum.inr (5, [.null, .int 0, .int 0, .int 0, .int 0, .null]))] s.heap := hP
  have hD : va_D A [(h0, Sum.inr (5, [.null, .int 0, .int 0, .int 0, .int 0, .null]))] := hD
  refine lv_aload_n hx hb dX5_init_0 rfl (lv_at hl 0 rfl) ?_
  refine W.objInit hx hb hown (ht _ oiX5) (ht _ gw_oiM) (ht _ gw_oiC) rfl (by rw [hml]; exact hl.1) rfl dX5_init_1 (Nat.le_of_ble_eq_true rfl) (Nat.le_of_ble_eq_true rfl) ?_
  refine W.eq (g2 := F0 m 4 ls []) rfl ?_
  refine lv_aload_n hx hb dX5_init_4 rfl (lv_at hl 0 rfl) ?_
  refine lv_sipush (v := 160) hx hb dX5_init_5 (by decide) ?_
  refine nb_newi (cA := cA) (N := 160) hx hb ht hK hP hD hS hA (by decide) rfl (by decide) (Nat.le_of_ble_eq_true rfl) (Nat.le_of_ble_eq_true rfl) dX5_init_8 (fun q1 H hP hD hS => ?_)
  have hP : va_P D vwCl [(h0, Sum.inr (5, [.null, .int 0, .int 0, .int 0, .int 0, .null])), (q1, Sum.inl (cA 0, 160, Sum.inl zf))] H := hP
  have hD : va_D A [(h0, Sum.inr (5, [.null, .int 0, .int 0, .int 0, .int 0, .null])), (q1, Sum.inl (cA 0, 160, Sum.inl zf))] := hD
  refine nb_putF (v := .ref q1) hx hb ht hown hin hK rfl hP hD hS ffX5_9 rfl rfl (Nat.le_of_ble_eq_true rfl) dX5_init_10 (fun H locs hP hD hS => ?_)
  have hP : va_P D vwCl [(h0, Sum.inr (5, [.ref q1, .int 0, .int 0, .int 0, .int 0, .null])), (q1, Sum.inl (cA 0, 160, Sum.inl zf))] H := hP
  have hD : va_D A [(h0, Sum.inr (5, [.ref q1, .int 0, .int 0, .int 0, .int 0, .null])), (q1, Sum.inl (cA 0, 160, Sum.inl zf))] := hD
  refine lv_aload_n hx hb dX5_init_13 rfl (lv_at hl 0 rfl) ?_
  refine lv_iconst (v := 0) hx hb dX5_init_14 (by decide) ?_
  refine nb_put (v := .int 0) hx hb ht hown hK rfl hP hD hS fpX5_15 rfl rfl (Nat.le_of_ble_eq_true rfl) dX5_init_15 (fun H locs hP hD hS => ?_)
  have hP : va_P D vwCl [(h0, Sum.inr (5, [.ref q1, .int 0, .int 0, .int 0, .int 0, .null])), (q1, Sum.inl (cA 0, 160, Sum.inl zf))] H := hP
  have hD : va_D A [(h0, Sum.inr (5, [.ref q1, .int 0, .int 0, .int 0, .int 0, .null])), (q1, Sum.inl (cA 0, 160, Sum.inl zf))] := hD
  refine lv_aload_n hx hb dX5_init_18 rfl (lv_at hl 0 rfl) ?_
  refine lv_iconst (v := 0) hx hb dX5_init_19 (by decide) ?_
  refine nb_put (v := .int 0) hx hb ht hown hK rfl hP hD hS fpX5_19 rfl rfl (Nat.le_of_ble_eq_true rfl) dX5_init_20 (fun H locs hP hD hS => ?_)
  have hP : va_P D vwCl [(h0, Sum.inr (5, [.ref q1, .int 0, .int 0, .int 0, .int 0, .null])), (q1, Sum.inl (cA 0, 160, Sum.inl zf))] H := hP
  have hD : va_D A [(h0, Sum.inr (5, [.ref q1, .int 0, .int 0, .int 0, .int 0, .null])), (q1, Sum.inl (cA 0, 160, Sum.inl zf))] := hD
  refine lv_aload_n hx hb dX5_init_23 rfl (lv_at hl 0 rfl) ?_
  refine lv_iconst (v := 0) hx hb dX5_init_24 (by decide) ?_
  refine nb_put (v := .int 0) hx hb ht hown hK rfl hP hD hS fpX5_22 rfl rfl (Nat.le_of_ble_eq_true rfl) dX5_init_25 (fun H locs hP hD hS => ?_)
  have hP : va_P D vwCl [(h0, Sum.inr (5, [.ref q1, .int 0, .int 0, .int 0, .int 0, .null])), (q1, Sum.inl (cA 0, 160, Sum.inl zf))] H := hP
  have hD : va_D A [(h0, Sum.inr (5, [.ref q1, .int 0, .int 0, .int 0, .int 0, .null])), (q1, Sum.inl (cA 0, 160, Sum.inl zf))] := hD
  refine lv_aload_n hx hb dX5_init_28 rfl (lv_at hl 0 rfl) ?_
  refine lv_iconst (v := 0) hx hb dX5_init_29 (by decide) ?_
  refine nb_put (v := .int 0) hx hb ht hown hK rfl hP hD hS fpX5_25 rfl rfl (Nat.le_of_ble_eq_true rfl) dX5_init_30 (fun H locs hP hD hS => ?_)
  have hP : va_P D vwCl [(h0, Sum.inr (5, [.ref q1, .int 0, .int 0, .int 0, .int 0, .null])), (q1, Sum.inl (cA 0, 160, Sum.inl zf))] H := hP
  have hD : va_D A [(h0, Sum.inr (5, [.ref q1, .int 0, .int 0, .int 0, .int 0, .null])), (q1, Sum.inl (cA 0, 160, Sum.inl zf))] := hD
  refine lv_aload_n hx hb dX5_init_33 rfl (lv_at hl 0 rfl) ?_
  refine lv_iconst (v := 3) hx hb dX5_init_34 (by decide) ?_
  refine nb_newi (cA := cA) (N := 3) hx hb ht hK hP hD hS hA (by decide) rfl (by decide) (Nat.le_of_ble_eq_true rfl) (Nat.le_of_ble_eq_true rfl) dX5_init_35 (fun q2 H hP hD hS => ?_)
  have hP : va_P D vwCl [(h0, Sum.inr (5, [.ref q1, .int 0, .int 0, .int 0, .int 0, .null])), (q1, Sum.inl (cA 0, 160, Sum.inl zf)), (q2, Sum.inl (cA 0, 3, Sum.inl zf))] H := hP
  have hD : va_D A [(h0, Sum.inr (5, [.ref q1, .int 0, .int 0, .int 0, .int 0, .null])), (q1, Sum.inl (cA 0, 160, Sum.inl zf)), (q2, Sum.inl (cA 0, 3, Sum.inl zf))] := hD
  refine nb_putF (v := .ref q2) hx hb ht hown hin hK rfl hP hD hS ffX5_28 rfl rfl (Nat.le_of_ble_eq_true rfl) dX5_init_37 (fun H locs hP hD hS => ?_)
  have hP : va_P D vwCl [(h0, Sum.inr (5, [.ref q1, .int 0, .int 0, .int 0, .int 0, .ref q2])), (q1, Sum.inl (cA 0, 160, Sum.inl zf)), (q2, Sum.inl (cA 0, 3, Sum.inl zf))] H := hP
  have hD : va_D A [(h0, Sum.inr (5, [.ref q1, .int 0, .int 0, .int 0, .int 0, .ref q2])), (q1, Sum.inl (cA 0, 160, Sum.inl zf)), (q2, Sum.inl (cA 0, 3, Sum.inl zf))] := hD
  refine W.widen (k := 2) (n := 163) (Nat.le_of_ble_eq_true rfl) (Nat.le_of_ble_eq_true rfl) ?_
  exact W.vret hx hb hr (fun t ht hW => ⟨⟨fun i => [h0, q1, q2].getD i 0, rfl, rfl, by rw [ht]; exact hP, hD⟩, hS.F ht⟩) hS.2.2 dX5_init_40
def wSta (cA : Nat → ClassId) (q : Nat → Nat) : va_W := [((q 0), Sum.inr (4, [.int 0, .ref (q 1), .ref (q 2), .ref (q 3), .ref (q 4), .int 0, .ref (q 5), .ref (q 6), .int 0, .ref (q 7), .ref (q 8), .ref (q 9)])), ((q 1), Sum.inl (cA 0, 10, Sum.inl zf)), ((q 2), Sum.inl (cA 0, 10, Sum.inl zf)), ((q 3), Sum.inl (cA 0, 10, Sum.inl zf)), ((q 4), Sum.inl (cA 0, 10, Sum.inl zf)), ((q 5), Sum.inl (cA 0, 10, Sum.inl zf)), ((q 6), Sum.inl (cA 0, 10, Sum.inl zf)), ((q 7), Sum.inl (cA 0, 4, Sum.inl zf)), ((q 8), Sum.inl (cA 0, 4, Sum.inl zf)), ((q 9), Sum.inl (cA 0, 10, Sum.inl zf))]
set_option maxHeartbeats 4000000 in
set_option maxRecDepth 100000 in
theorem mk_X4 {l : Launch} {D : va_G} {cA : Nat → ClassId} : Mk (S := Nat → Nat) l D cA yX4_init iX4_init 1 9 78 4 fsX4 (fun q => q 0) (wSta cA) := by
  intro h0 sz
  refine Met.ofW (cc := cX4_init) (maxL := 1) (ret := none) (by decide) rfl ?_
  intro p e s m args below meth c s₁ B hml hv
  obtain ⟨rfl, hsz, hP, hK⟩ := hv
  have hx := B.exec
  have hb := B.bytes
  have hr := B.returns
  have ht0 := atoms_spec (ws := wsG yX4_init iX4_init) B.pre
  have ht : ∀ w ∈ GW, w.before [Value.ref h0].toArray s = true := fun w hw => ht0 w (List.mem_cons_of_mem _ hw)
  have hown : s.vm.findClass RX4 = some m.cls := findClass_of_methodNamed B.named
  have hlocks := B.notSynchronized
  have hin : meth.name = "<init>" := (name_of_methodNamed B.named B.method).1
  subst hsz
  have hD := (nb_D1 (x := (h0, Sum.inr (4, fsX4)))).self (sz := s.heap.size)
  generalize hAe : va_A [(h0, Sum.inr (4, fsX4))] s.heap.size = A at hD ⊢
  have hA : ∀ q : Nat, s.heap.size ≤ q → A q := fun q h => by rw [← hAe]; exact Or.inr h
  have hS : va_S A s.heap s.heap [] := va_S.rf
  have hl := lv_entry ([.ref h0]) (n := 1) (Nat.le_of_ble_eq_true rfl)
  rw [lg_entry_eq]
  generalize (lg_sl ([.ref h0]) ++ List.replicate (1 - (lg_sl ([.ref h0])).length) Slot.unset).toArray = ls at hl ⊢
  have hl : lv_has ls 1 [(0, .ref h0)] := hl
  have hP : va_P D vwCl [(h0, Sum.inr (4, [.int 0, .null, .null, .null, .null, .int 0, .null, .null, .int 0, .null, .null, .null]))] s.heap := hP
  have hD : va_D A [(h0, Sum.inr (4, [.int 0, .null, .null, .null, .null, .int 0, .null, .null, .int 0, .null, .null, .null]))] := hD
  refine lv_aload_n hx hb dX4_init_0 rfl (lv_at hl 0 rfl) ?_
  refine W.objInit hx hb hown (ht _ oiX4) (ht _ gw_oiM) (ht _ gw_oiC) rfl (by rw [hml]; exact hl.1) rfl dX4_init_1 (Nat.le_of_ble_eq_true rfl) (Nat.le_of_ble_eq_true rfl) ?_
  refine W.eq (g2 := F0 m 4 ls []) rfl ?_
  refine lv_aload_n hx hb dX4_init_4 rfl (lv_at hl 0 rfl) ?_
  refine lv_iconst (v := 0) hx hb dX4_init_5 (by decide) ?_
  refine nb_put (v := .int 0) hx hb ht hown hK rfl hP hD hS fpX4_9 rfl rfl (Nat.le_of_ble_eq_true rfl) dX4_init_6 (fun H locs hP hD hS => ?_)
  have hP : va_P D vwCl [(h0, Sum.inr (4, [.int 0, .null, .null, .null, .null, .int 0, .null, .null, .int 0, .null, .null, .null]))] H := hP
  have hD : va_D A [(h0, Sum.inr (4, [.int 0, .null, .null, .null, .null, .int 0, .null, .null, .int 0, .null, .null, .null]))] := hD
  refine lv_aload_n hx hb dX4_init_9 rfl (lv_at hl 0 rfl) ?_
  refine lv_bipush (v := 10) hx hb dX4_init_10 (by decide) ?_
  refine nb_newi (cA := cA) (N := 10) hx hb ht hK hP hD hS hA (by decide) rfl (by decide) (Nat.le_of_ble_eq_true rfl) (Nat.le_of_ble_eq_true rfl) dX4_init_12 (fun q1 H hP hD hS => ?_)
  have hP : va_P D vwCl [(h0, Sum.inr (4, [.int 0, .null, .null, .null, .null, .int 0, .null, .null, .int 0, .null, .null, .null])), (q1, Sum.inl (cA 0, 10, Sum.inl zf))] H := hP
  have hD : va_D A [(h0, Sum.inr (4, [.int 0, .null, .null, .null, .null, .int 0, .null, .null, .int 0, .null, .null, .null])), (q1, Sum.inl (cA 0, 10, Sum.inl zf))] := hD
  refine nb_putF (v := .ref q1) hx hb ht hown hin hK rfl hP hD hS ffX4_15 rfl rfl (Nat.le_of_ble_eq_true rfl) dX4_init_14 (fun H locs hP hD hS => ?_)
  have hP : va_P D vwCl [(h0, Sum.inr (4, [.int 0, .ref q1, .null, .null, .null, .int 0, .null, .null, .int 0, .null, .null, .null])), (q1, Sum.inl (cA 0, 10, Sum.inl zf))] H := hP
  have hD : va_D A [(h0, Sum.inr (4, [.int 0, .ref q1, .null, .null, .null, .int 0, .null, .null, .int 0, .null, .null, .null])), (q1, Sum.inl (cA 0, 10, Sum.inl zf))] := hD
  refine lv_aload_n hx hb dX4_init_17 rfl (lv_at hl 0 rfl) ?_
  refine lv_bipush (v := 10) hx hb dX4_init_18 (by decide) ?_
  refine nb_newi (cA := cA) (N := 10) hx hb ht hK hP hD hS hA (by decide) rfl (by decide) (Nat.le_of_ble_eq_true rfl) (Nat.le_of_ble_eq_true rfl) dX4_init_20 (fun q2 H hP hD hS => ?_)
  have hP : va_P D vwCl [(h0, Sum.inr (4, [.int 0, .ref q1, .null, .null, .null, .int 0, .null, .null, .int 0, .null, .null, .null])), (q1, Sum.inl (cA 0, 10, Sum.inl zf)), (q2, Sum.inl (cA 0, 10, Sum.inl zf))] H := hP
  have hD : va_D A [(h0, Sum.inr (4, [.int 0, .ref q1, .null, .null, .null, .int 0, .null, .null, .int 0, .null, .null, .null])), (q1, Sum.inl (cA 0, 10, Sum.inl zf)), (q2, Sum.inl (cA 0, 10, Sum.inl zf))] := hD
  refine nb_putF (v := .ref q2) hx hb ht hown hin hK rfl hP hD hS ffX4_19 rfl rfl (Nat.le_of_ble_eq_true rfl) dX4_init_22 (fun H locs hP hD hS => ?_)
  have hP : va_P D vwCl [(h0, Sum.inr (4, [.int 0, .ref q1, .ref q2, .null, .null, .int 0, .null, .null, .int 0, .null, .null, .null])), (q1, Sum.inl (cA 0, 10, Sum.inl zf)), (q2, Sum.inl (cA 0, 10, Sum.inl zf))] H := hP
  have hD : va_D A [(h0, Sum.inr (4, [.int 0, .ref q1, .ref q2, .null, .null, .int 0, .null, .null, .int 0, .null, .null, .null])), (q1, Sum.inl (cA 0, 10, Sum.inl zf)), (q2, Sum.inl (cA 0, 10, Sum.inl zf))] := hD
  refine lv_aload_n hx hb dX4_init_25 rfl (lv_at hl 0 rfl) ?_
  refine lv_bipush (v := 10) hx hb dX4_init_26 (by decide) ?_
  refine nb_newi (cA := cA) (N := 10) hx hb ht hK hP hD hS hA (by decide) rfl (by decide) (Nat.le_of_ble_eq_true rfl) (Nat.le_of_ble_eq_true rfl) dX4_init_28 (fun q3 H hP hD hS => ?_)
  have hP : va_P D vwCl [(h0, Sum.inr (4, [.int 0, .ref q1, .ref q2, .null, .null, .int 0, .null, .null, .int 0, .null, .null, .null])), (q1, Sum.inl (cA 0, 10, Sum.inl zf)), (q2, Sum.inl (cA 0, 10, Sum.inl zf)), (q3, Sum.inl (cA 0, 10, Sum.inl zf))] H := hP
  have hD : va_D A [(h0, Sum.inr (4, [.int 0, .ref q1, .ref q2, .null, .null, .int 0, .null, .null, .int 0, .null, .null, .null])), (q1, Sum.inl (cA 0, 10, Sum.inl zf)), (q2, Sum.inl (cA 0, 10, Sum.inl zf)), (q3, Sum.inl (cA 0, 10, Sum.inl zf))] := hD
  refine nb_putF (v := .ref q3) hx hb ht hown hin hK rfl hP hD hS ffX4_22 rfl rfl (Nat.le_of_ble_eq_true rfl) dX4_init_30 (fun H locs hP hD hS => ?_)
  have hP : va_P D vwCl [(h0, Sum.inr (4, [.int 0, .ref q1, .ref q2, .ref q3, .null, .int 0, .null, .null, .int 0, .null, .null, .null])), (q1, Sum.inl (cA 0, 10, Sum.inl zf)), (q2, Sum.inl (cA 0, 10, Sum.inl zf)), (q3, Sum.inl (cA 0, 10, Sum.inl zf))] H := hP
  have hD : va_D A [(h0, Sum.inr (4, [.int 0, .ref q1, .ref q2, .ref q3, .null, .int 0, .null, .null, .int 0, .null, .null, .null])), (q1, Sum.inl (cA 0, 10, Sum.inl zf)), (q2, Sum.inl (cA 0, 10, Sum.inl zf)), (q3, Sum.inl (cA 0, 10, Sum.inl zf))] := hD
  refine lv_aload_n hx hb dX4_init_33 rfl (lv_at hl 0 rfl) ?_
  refine lv_bipush (v := 10) hx hb dX4_init_34 (by decide) ?_
  refine nb_newi (cA := cA) (N := 10) hx hb ht hK hP hD hS hA (by decide) rfl (by decide) (Nat.le_of_ble_eq_true rfl) (Nat.le_of_ble_eq_true rfl) dX4_init_36 (fun q4 H hP hD hS => ?_)
  have hP : va_P D vwCl [(h0, Sum.inr (4, [.int 0, .ref q1, .ref q2, .ref q3, .null, .int 0, .null, .null, .int 0, .null, .null, .null])), (q1, Sum.inl (cA 0, 10, Sum.inl zf)), (q2, Sum.inl (cA 0, 10, Sum.inl zf)), (q3, Sum.inl (cA 0, 10, Sum.inl zf)), (q4, Sum.inl (cA 0, 10, Sum.inl zf))] H := hP
  have hD : va_D A [(h0, Sum.inr (4, [.int 0, .ref q1, .ref q2, .ref q3, .null, .int 0, .null, .null, .int 0, .null, .null, .null])), (q1, Sum.inl (cA 0, 10, Sum.inl zf)), (q2, Sum.inl (cA 0, 10, Sum.inl zf)), (q3, Sum.inl (cA 0, 10, Sum.inl zf)), (q4, Sum.inl (cA 0, 10, Sum.inl zf))] := hD
  refine nb_putF (v := .ref q4) hx hb ht hown hin hK rfl hP hD hS ffX4_25 rfl rfl (Nat.le_of_ble_eq_true rfl) dX4_init_38 (fun H locs hP hD hS => ?_)
  have hP : va_P D vwCl [(h0, Sum.inr (4, [.int 0, .ref q1, .ref q2, .ref q3, .ref q4, .int 0, .null, .null, .int 0, .null, .null, .null])), (q1, Sum.inl (cA 0, 10, Sum.inl zf)), (q2, Sum.inl (cA 0, 10, Sum.inl zf)), (q3, Sum.inl (cA 0, 10, Sum.inl zf)), (q4, Sum.inl (cA 0, 10, Sum.inl zf))] H := hP
  have hD : va_D A [(h0, Sum.inr (4, [.int 0, .ref q1, .ref q2, .ref q3, .ref q4, .int 0, .null, .null, .int 0, .null, .null, .null])), (q1, Sum.inl (cA 0, 10, Sum.inl zf)), (q2, Sum.inl (cA 0, 10, Sum.inl zf)), (q3, Sum.inl (cA 0, 10, Sum.inl zf)), (q4, Sum.inl (cA 0, 10, Sum.inl zf))] := hD
  refine lv_aload_n hx hb dX4_init_41 rfl (lv_at hl 0 rfl) ?_
  refine lv_iconst (v := 0) hx hb dX4_init_42 (by decide) ?_
  refine nb_put (v := .int 0) hx hb ht hown hK rfl hP hD hS fpX4_28 rfl rfl (Nat.le_of_ble_eq_true rfl) dX4_init_43 (fun H locs hP hD hS => ?_)
  have hP : va_P D vwCl [(h0, Sum.inr (4, [.int 0, .ref q1, .ref q2, .ref q3, .ref q4, .int 0, .null, .null, .int 0, .null, .null, .null])), (q1, Sum.inl (cA 0, 10, Sum.inl zf)), (q2, Sum.inl (cA 0, 10, Sum.inl zf)), (q3, Sum.inl (cA 0, 10, Sum.inl zf)), (q4, Sum.inl (cA 0, 10, Sum.inl zf))] H := hP
  have hD : va_D A [(h0, Sum.inr (4, [.int 0, .ref q1, .ref q2, .ref q3, .ref q4, .int 0, .null, .null, .int 0, .null, .null, .null])), (q1, Sum.inl (cA 0, 10, Sum.inl zf)), (q2, Sum.inl (cA 0, 10, Sum.inl zf)), (q3, Sum.inl (cA 0, 10, Sum.inl zf)), (q4, Sum.inl (cA 0, 10, Sum.inl zf))] := hD
  refine lv_aload_n hx hb dX4_init_46 rfl (lv_at hl 0 rfl) ?_
  refine lv_bipush (v := 10) hx hb dX4_init_47 (by decide) ?_
  refine nb_newi (cA := cA) (N := 10) hx hb ht hK hP hD hS hA (by decide) rfl (by decide) (Nat.le_of_ble_eq_true rfl) (Nat.le_of_ble_eq_true rfl) dX4_init_49 (fun q5 H hP hD hS => ?_)
  have hP : va_P D vwCl [(h0, Sum.inr (4, [.int 0, .ref q1, .ref q2, .ref q3, .ref q4, .int 0, .null, .null, .int 0, .null, .null, .null])), (q1, Sum.inl (cA 0, 10, Sum.inl zf)), (q2, Sum.inl (cA 0, 10, Sum.inl zf)), (q3, Sum.inl (cA 0, 10, Sum.inl zf)), (q4, Sum.inl (cA 0, 10, Sum.inl zf)), (q5, Sum.inl (cA 0, 10, Sum.inl zf))] H := hP
  have hD : va_D A [(h0, Sum.inr (4, [.int 0, .ref q1, .ref q2, .ref q3, .ref q4, .int 0, .null, .null, .int 0, .null, .null, .null])), (q1, Sum.inl (cA 0, 10, Sum.inl zf)), (q2, Sum.inl (cA 0, 10, Sum.inl zf)), (q3, Sum.inl (cA 0, 10, Sum.inl zf)), (q4, Sum.inl (cA 0, 10, Sum.inl zf)), (q5, Sum.inl (cA 0, 10, Sum.inl zf))] := hD
  refine nb_putF (v := .ref q5) hx hb ht hown hin hK rfl hP hD hS ffX4_31 rfl rfl (Nat.le_of_ble_eq_true rfl) dX4_init_51 (fun H locs hP hD hS => ?_)
  have hP : va_P D vwCl [(h0, Sum.inr (4, [.int 0, .ref q1, .ref q2, .ref q3, .ref q4, .int 0, .ref q5, .null, .int 0, .null, .null, .null])), (q1, Sum.inl (cA 0, 10, Sum.inl zf)), (q2, Sum.inl (cA 0, 10, Sum.inl zf)), (q3, Sum.inl (cA 0, 10, Sum.inl zf)), (q4, Sum.inl (cA 0, 10, Sum.inl zf)), (q5, Sum.inl (cA 0, 10, Sum.inl zf))] H := hP
  have hD : va_D A [(h0, Sum.inr (4, [.int 0, .ref q1, .ref q2, .ref q3, .ref q4, .int 0, .ref q5, .null, .int 0, .null, .null, .null])), (q1, Sum.inl (cA 0, 10, Sum.inl zf)), (q2, Sum.inl (cA 0, 10, Sum.inl zf)), (q3, Sum.inl (cA 0, 10, Sum.inl zf)), (q4, Sum.inl (cA 0, 10, Sum.inl zf)), (q5, Sum.inl (cA 0, 10, Sum.inl zf))] := hD
  refine lv_aload_n hx hb dX4_init_54 rfl (lv_at hl 0 rfl) ?_
  refine lv_bipush (v := 10) hx hb dX4_init_55 (by decide) ?_
  refine nb_newi (cA := cA) (N := 10) hx hb ht hK hP hD hS hA (by decide) rfl (by decide) (Nat.le_of_ble_eq_true rfl) (Nat.le_of_ble_eq_true rfl) dX4_init_57 (fun q6 H hP hD hS => ?_)
  have hP : va_P D vwCl [(h0, Sum.inr (4, [.int 0, .ref q1, .ref q2, .ref q3, .ref q4, .int 0, .ref q5, .null, .int 0, .null, .null, .null])), (q1, Sum.inl (cA 0, 10, Sum.inl zf)), (q2, Sum.inl (cA 0, 10, Sum.inl zf)), (q3, Sum.inl (cA 0, 10, Sum.inl zf)), (q4, Sum.inl (cA 0, 10, Sum.inl zf)), (q5, Sum.inl (cA 0, 10, Sum.inl zf)), (q6, Sum.inl (cA 0, 10, Sum.inl zf))] H := hP
  have hD : va_D A [(h0, Sum.inr (4, [.int 0, .ref q1, .ref q2, .ref q3, .ref q4, .int 0, .ref q5, .null, .int 0, .null, .null, .null])), (q1, Sum.inl (cA 0, 10, Sum.inl zf)), (q2, Sum.inl (cA 0, 10, Sum.inl zf)), (q3, Sum.inl (cA 0, 10, Sum.inl zf)), (q4, Sum.inl (cA 0, 10, Sum.inl zf)), (q5, Sum.inl (cA 0, 10, Sum.inl zf)), (q6, Sum.inl (cA 0, 10, Sum.inl zf))] := hD
  refine nb_putF (v := .ref q6) hx hb ht hown hin hK rfl hP hD hS ffX4_34 rfl rfl (Nat.le_of_ble_eq_true rfl) dX4_init_59 (fun H locs hP hD hS => ?_)
  have hP : va_P D vwCl [(h0, Sum.inr (4, [.int 0, .ref q1, .ref q2, .ref q3, .ref q4, .int 0, .ref q5, .ref q6, .int 0, .null, .null, .null])), (q1, Sum.inl (cA 0, 10, Sum.inl zf)), (q2, Sum.inl (cA 0, 10, Sum.inl zf)), (q3, Sum.inl (cA 0, 10, Sum.inl zf)), (q4, Sum.inl (cA 0, 10, Sum.inl zf)), (q5, Sum.inl (cA 0, 10, Sum.inl zf)), (q6, Sum.inl (cA 0, 10, Sum.inl zf))] H := hP
  have hD : va_D A [(h0, Sum.inr (4, [.int 0, .ref q1, .ref q2, .ref q3, .ref q4, .int 0, .ref q5, .ref q6, .int 0, .null, .null, .null])), (q1, Sum.inl (cA 0, 10, Sum.inl zf)), (q2, Sum.inl (cA 0, 10, Sum.inl zf)), (q3, Sum.inl (cA 0, 10, Sum.inl zf)), (q4, Sum.inl (cA 0, 10, Sum.inl zf)), (q5, Sum.inl (cA 0, 10, Sum.inl zf)), (q6, Sum.inl (cA 0, 10, Sum.inl zf))] := hD
  refine lv_aload_n hx hb dX4_init_62 rfl (lv_at hl 0 rfl) ?_
  refine lv_iconst (v := 0) hx hb dX4_init_63 (by decide) ?_
  refine nb_put (v := .int 0) hx hb ht hown hK rfl hP hD hS fpX4_37 rfl rfl (Nat.le_of_ble_eq_true rfl) dX4_init_64 (fun H locs hP hD hS => ?_)
  have hP : va_P D vwCl [(h0, Sum.inr (4, [.int 0, .ref q1, .ref q2, .ref q3, .ref q4, .int 0, .ref q5, .ref q6, .int 0, .null, .null, .null])), (q1, Sum.inl (cA 0, 10, Sum.inl zf)), (q2, Sum.inl (cA 0, 10, Sum.inl zf)), (q3, Sum.inl (cA 0, 10, Sum.inl zf)), (q4, Sum.inl (cA 0, 10, Sum.inl zf)), (q5, Sum.inl (cA 0, 10, Sum.inl zf)), (q6, Sum.inl (cA 0, 10, Sum.inl zf))] H := hP
  have hD : va_D A [(h0, Sum.inr (4, [.int 0, .ref q1, .ref q2, .ref q3, .ref q4, .int 0, .ref q5, .ref q6, .int 0, .null, .null, .null])), (q1, Sum.inl (cA 0, 10, Sum.inl zf)), (q2, Sum.inl (cA 0, 10, Sum.inl zf)), (q3, Sum.inl (cA 0, 10, Sum.inl zf)), (q4, Sum.inl (cA 0, 10, Sum.inl zf)), (q5, Sum.inl (cA 0, 10, Sum.inl zf)), (q6, Sum.inl (cA 0, 10, Sum.inl zf))] := hD
  refine lv_aload_n hx hb dX4_init_67 rfl (lv_at hl 0 rfl) ?_
  refine lv_iconst (v := 4) hx hb dX4_init_68 (by decide) ?_
  refine nb_newi (cA := cA) (N := 4) hx hb ht hK hP hD hS hA (by decide) rfl (by decide) (Nat.le_of_ble_eq_true rfl) (Nat.le_of_ble_eq_true rfl) dX4_init_69 (fun q7 H hP hD hS => ?_)
  have hP : va_P D vwCl [(h0, Sum.inr (4, [.int 0, .ref q1, .ref q2, .ref q3, .ref q4, .int 0, .ref q5, .ref q6, .int 0, .null, .null, .null])), (q1, Sum.inl (cA 0, 10, Sum.inl zf)), (q2, Sum.inl (cA 0, 10, Sum.inl zf)), (q3, Sum.inl (cA 0, 10, Sum.inl zf)), (q4, Sum.inl (cA 0, 10, Sum.inl zf)), (q5, Sum.inl (cA 0, 10, Sum.inl zf)), (q6, Sum.inl (cA 0, 10, Sum.inl zf)), (q7, Sum.inl (cA 0, 4, Sum.inl zf))] H := hP
  have hD : va_D A [(h0, Sum.inr (4, [.int 0, .ref q1, .ref q2, .ref q3, .ref q4, .int 0, .ref q5, .ref q6, .int 0, .null, .null, .null])), (q1, Sum.inl (cA 0, 10, Sum.inl zf)), (q2, Sum.inl (cA 0, 10, Sum.inl zf)), (q3, Sum.inl (cA 0, 10, Sum.inl zf)), (q4, Sum.inl (cA 0, 10, Sum.inl zf)), (q5, Sum.inl (cA 0, 10, Sum.inl zf)), (q6, Sum.inl (cA 0, 10, Sum.inl zf)), (q7, Sum.inl (cA 0, 4, Sum.inl zf))] := hD
  refine nb_putF (v := .ref q7) hx hb ht hown hin hK rfl hP hD hS ffX4_40 rfl rfl (Nat.le_of_ble_eq_true rfl) dX4_init_71 (fun H locs hP hD hS => ?_)
  have hP : va_P D vwCl [(h0, Sum.inr (4, [.int 0, .ref q1, .ref q2, .ref q3, .ref q4, .int 0, .ref q5, .ref q6, .int 0, .ref q7, .null, .null])), (q1, Sum.inl (cA 0, 10, Sum.inl zf)), (q2, Sum.inl (cA 0, 10, Sum.inl zf)), (q3, Sum.inl (cA 0, 10, Sum.inl zf)), (q4, Sum.inl (cA 0, 10, Sum.inl zf)), (q5, Sum.inl (cA 0, 10, Sum.inl zf)), (q6, Sum.inl (cA 0, 10, Sum.inl zf)), (q7, Sum.inl (cA 0, 4, Sum.inl zf))] H := hP
  have hD : va_D A [(h0, Sum.inr (4, [.int 0, .ref q1, .ref q2, .ref q3, .ref q4, .int 0, .ref q5, .ref q6, .int 0, .ref q7, .null, .null])), (q1, Sum.inl (cA 0, 10, Sum.inl zf)), (q2, Sum.inl (cA 0, 10, Sum.inl zf)), (q3, Sum.inl (cA 0, 10, Sum.inl zf)), (q4, Sum.inl (cA 0, 10, Sum.inl zf)), (q5, Sum.inl (cA 0, 10, Sum.inl zf)), (q6, Sum.inl (cA 0, 10, Sum.inl zf)), (q7, Sum.inl (cA 0, 4, Sum.inl zf))] := hD
  refine lv_aload_n hx hb dX4_init_74 rfl (lv_at hl 0 rfl) ?_
  refine lv_iconst (v := 4) hx hb dX4_init_75 (by decide) ?_
  refine nb_newi (cA := cA) (N := 4) hx hb ht hK hP hD hS hA (by decide) rfl (by decide) (Nat.le_of_ble_eq_true rfl) (Nat.le_of_ble_eq_true rfl) dX4_init_76 (fun q8 H hP hD hS => ?_)
  have hP : va_P D vwCl [(h0, Sum.inr (4, [.int 0, .ref q1, .ref q2, .ref q3, .ref q4, .int 0, .ref q5, .ref q6, .int 0, .ref q7, .null, .null])), (q1, Sum.inl (cA 0, 10, Sum.inl zf)), (q2, Sum.inl (cA 0, 10, Sum.inl zf)), (q3, Sum.inl (cA 0, 10, Sum.inl zf)), (q4, Sum.inl (cA 0, 10, Sum.inl zf)), (q5, Sum.inl (cA 0, 10, Sum.inl zf)), (q6, Sum.inl (cA 0, 10, Sum.inl zf)), (q7, Sum.inl (cA 0, 4, Sum.inl zf)), (q8, Sum.inl (cA 0, 4, Sum.inl zf))] H := hP
  have hD : va_D A [(h0, Sum.inr (4, [.int 0, .ref q1, .ref q2, .ref q3, .ref q4, .int 0, .ref q5, .ref q6, .int 0, .ref q7, .null, .null])), (q1, Sum.inl (cA 0, 10, Sum.inl zf)), (q2, Sum.inl (cA 0, 10, Sum.inl zf)), (q3, Sum.inl (cA 0, 10, Sum.inl zf)), (q4, Sum.inl (cA 0, 10, Sum.inl zf)), (q5, Sum.inl (cA 0, 10, Sum.inl zf)), (q6, Sum.inl (cA 0, 10, Sum.inl zf)), (q7, Sum.inl (cA 0, 4, Sum.inl zf)), (q8, Sum.inl (cA 0, 4, Sum.inl zf))] := hD
  refine nb_putF (v := .ref q8) hx hb ht hown hin hK rfl hP hD hS ffX4_43 rfl rfl (Nat.le_of_ble_eq_true rfl) dX4_init_78 (fun H locs hP hD hS => ?_)
  have hP : va_P D vwCl [(h0, Sum.inr (4, [.int 0, .ref q1, .ref q2, .ref q3, .ref q4, .int 0, .ref q5, .ref q6, .int 0, .ref q7, .ref q8, .null])), (q1, Sum.inl (cA 0, 10, Sum.inl zf)), (q2, Sum.inl (cA 0, 10, Sum.inl zf)), (q3, Sum.inl (cA 0, 10, Sum.inl zf)), (q4, Sum.inl (cA 0, 10, Sum.inl zf)), (q5, Sum.inl (cA 0, 10, Sum.inl zf)), (q6, Sum.inl (cA 0, 10, Sum.inl zf)), (q7, Sum.inl (cA 0, 4, Sum.inl zf)), (q8, Sum.inl (cA 0, 4, Sum.inl zf))] H := hP
  have hD : va_D A [(h0, Sum.inr (4, [.int 0, .ref q1, .ref q2, .ref q3, .ref q4, .int 0, .ref q5, .ref q6, .int 0, .ref q7, .ref q8, .null])), (q1, Sum.inl (cA 0, 10, Sum.inl zf)), (q2, Sum.inl (cA 0, 10, Sum.inl zf)), (q3, Sum.inl (cA 0, 10, Sum.inl zf)), (q4, Sum.inl (cA 0, 10, Sum.inl zf)), (q5, Sum.inl (cA 0, 10, Sum.inl zf)), (q6, Sum.inl (cA 0, 10, Sum.inl zf)), (q7, Sum.inl (cA 0, 4, Sum.inl zf)), (q8, Sum.inl (cA 0, 4, Sum.inl zf))] := hD
  refine lv_aload_n hx hb dX4_init_81 rfl (lv_at hl 0 rfl) ?_
  refine lv_bipush (v := 10) hx hb dX4_init_82 (by decide) ?_
  refine nb_newi (cA := cA) (N := 10) hx hb ht hK hP hD hS hA (by decide) rfl (by decide) (Nat.le_of_ble_eq_true rfl) (Nat.le_of_ble_eq_true rfl) dX4_init_84 (fun q9 H hP hD hS => ?_)
  have hP : va_P D vwCl [(h0, Sum.inr (4, [.int 0, .ref q1, .ref q2, .ref q3, .ref q4, .int 0, .ref q5, .ref q6, .int 0, .ref q7, .ref q8, .null])), (q1, Sum.inl (cA 0, 10, Sum.inl zf)), (q2, Sum.inl (cA 0, 10, Sum.inl zf)), (q3, Sum.inl (cA 0, 10, Sum.inl zf)), (q4, Sum.inl (cA 0, 10, Sum.inl zf)), (q5, Sum.inl (cA 0, 10, Sum.inl zf)), (q6, Sum.inl (cA 0, 10, Sum.inl zf)), (q7, Sum.inl (cA 0, 4, Sum.inl zf)), (q8, Sum.inl (cA 0, 4, Sum.inl zf)), (q9, Sum.inl (cA 0, 10, Sum.inl zf))] H := hP
  have hD : va_D A [(h0, Sum.inr (4, [.int 0, .ref q1, .ref q2, .ref q3, .ref q4, .int 0, .ref q5, .ref q6, .int 0, .ref q7, .ref q8, .null])), (q1, Sum.inl (cA 0, 10, Sum.inl zf)), (q2, Sum.inl (cA 0, 10, Sum.inl zf)), (q3, Sum.inl (cA 0, 10, Sum.inl zf)), (q4, Sum.inl (cA 0, 10, Sum.inl zf)), (q5, Sum.inl (cA 0, 10, Sum.inl zf)), (q6, Sum.inl (cA 0, 10, Sum.inl zf)), (q7, Sum.inl (cA 0, 4, Sum.inl zf)), (q8, Sum.inl (cA 0, 4, Sum.inl zf)), (q9, Sum.inl (cA 0, 10, Sum.inl zf))] := hD
  refine nb_putF (v := .ref q9) hx hb ht hown hin hK rfl hP hD hS ffX4_46 rfl rfl (Nat.le_of_ble_eq_true rfl) dX4_init_86 (fun H locs hP hD hS => ?_)
  have hP : va_P D vwCl [(h0, Sum.inr (4, [.int 0, .ref q1, .ref q2, .ref q3, .ref q4, .int 0, .ref q5, .ref q6, .int 0, .ref q7, .ref q8, .ref q9])), (q1, Sum.inl (cA 0, 10, Sum.inl zf)), (q2, Sum.inl (cA 0, 10, Sum.inl zf)), (q3, Sum.inl (cA 0, 10, Sum.inl zf)), (q4, Sum.inl (cA 0, 10, Sum.inl zf)), (q5, Sum.inl (cA 0, 10, Sum.inl zf)), (q6, Sum.inl (cA 0, 10, Sum.inl zf)), (q7, Sum.inl (cA 0, 4, Sum.inl zf)), (q8, Sum.inl (cA 0, 4, Sum.inl zf)), (q9, Sum.inl (cA 0, 10, Sum.inl zf))] H := hP
  have hD : va_D A [(h0, Sum.inr (4, [.int 0, .ref q1, .ref q2, .ref q3, .ref q4, .int 0, .ref q5, .ref q6, .int 0, .ref q7, .ref q8, .ref q9])), (q1, Sum.inl (cA 0, 10, Sum.inl zf)), (q2, Sum.inl (cA 0, 10, Sum.inl zf)), (q3, Sum.inl (cA 0, 10, Sum.inl zf)), (q4, Sum.inl (cA 0, 10, Sum.inl zf)), (q5, Sum.inl (cA 0, 10, Sum.inl zf)), (q6, Sum.inl (cA 0, 10, Sum.inl zf)), (q7, Sum.inl (cA 0, 4, Sum.inl zf)), (q8, Sum.inl (cA 0, 4, Sum.inl zf)), (q9, Sum.inl (cA 0, 10, Sum.inl zf))] := hD
  refine W.widen (k := 9) (n := 78) (Nat.le_of_ble_eq_true rfl) (Nat.le_of_ble_eq_true rfl) ?_
  exact W.vret hx hb hr (fun t ht hW => ⟨⟨fun i => [h0, q1, q2, q3, q4, q5, q6, q7, q8, q9].getD i 0, rfl, rfl, by rw [ht]; exact hP, hD⟩, hS.F ht⟩) hS.2.2 dX4_init_89
def wRol (cA : Nat → ClassId) (q : Nat → Nat) : va_W := [((q 0), Sum.inr (3, [.int 0, .int 0, .int 0, .int 0, .int 0, .int 0, .int 0, .ref (q 1), .ref (q 2), .ref (q 3), .ref (q 4), .ref (q 5)])), ((q 1), Sum.inl (cA 0, 10, Sum.inl zf)), ((q 2), Sum.inl (cA 0, 10, Sum.inl zf)), ((q 3), Sum.inl (cA 0, 10, Sum.inl zf)), ((q 4), Sum.inl (cA 0, 10, Sum.inl zf)), ((q 5), Sum.inl (cA 0, 10, Sum.inl zf))]
set_option maxHeartbeats 4000000 in
set_option maxRecDepth 100000 in
theorem mk_X3 {l : Launch} {D : va_G} {cA : Nat → ClassId} : Mk (S := Nat → Nat) l D cA yX3_init iX3_init 1 5 50 3 fsX3 (fun q => q 0) (wRol cA) := by
  intro h0 sz
  refine Met.ofW (cc := cX3_init) (maxL := 1) (ret := none) (by decide) rfl ?_
  intro p e s m args below meth c s₁ B hml hv
  obtain ⟨rfl, hsz, hP, hK⟩ := hv
  have hx := B.exec
  have hb := B.bytes
  have hr := B.returns
  have ht0 := atoms_spec (ws := wsG yX3_init iX3_init) B.pre
  have ht : ∀ w ∈ GW, w.before [Value.ref h0].toArray s = true := fun w hw => ht0 w (List.mem_cons_of_mem _ hw)
  have hown : s.vm.findClass RX3 = some m.cls := findClass_of_methodNamed B.named
  have hlocks := B.notSynchronized
  have hin : meth.name = "<init>" := (name_of_methodNamed B.named B.method).1
  subst hsz
  have hD := (nb_D1 (x := (h0, Sum.inr (3, fsX3)))).self (sz := s.heap.size)
  generalize hAe : va_A [(h0, Sum.inr (3, fsX3))] s.heap.size = A at hD ⊢
  have hA : ∀ q : Nat, s.heap.size ≤ q → A q := fun q h => by rw [← hAe]; exact Or.inr h
  have hS : va_S A s.heap s.heap [] := va_S.rf
  have hl := lv_entry ([.ref h0]) (n := 1) (Nat.le_of_ble_eq_true rfl)
  rw [lg_entry_eq]
  generalize (lg_sl ([.ref h0]) ++ List.replicate (1 - (lg_sl ([.ref h0])).length) Slot.unset).toArray = ls at hl ⊢
  have hl : lv_has ls 1 [(0, .ref h0)] := hl
  have hP : va_P D vwCl [(h0, Sum.inr (3, [.int 0, .int 0, .int 0, .int 0, .int 0, .int 0, .int 0, .null, .null, .null, .null, .null]))] s.heap := hP
  have hD : va_D A [(h0, Sum.inr (3, [.int 0, .int 0, .int 0, .int 0, .int 0, .int 0, .int 0, .null, .null, .null, .null, .null]))] := hD
  refine lv_aload_n hx hb dX3_init_0 rfl (lv_at hl 0 rfl) ?_
  refine W.objInit hx hb hown (ht _ oiX3) (ht _ gw_oiM) (ht _ gw_oiC) rfl (by rw [hml]; exact hl.1) rfl dX3_init_1 (Nat.le_of_ble_eq_true rfl) (Nat.le_of_ble_eq_true rfl) ?_
  refine W.eq (g2 := F0 m 4 ls []) rfl ?_
  refine lv_aload_n hx hb dX3_init_4 rfl (lv_at hl 0 rfl) ?_
  refine lv_iconst (v := 0) hx hb dX3_init_5 (by decide) ?_
  refine nb_put (v := .int 0) hx hb ht hown hK rfl hP hD hS fpX3_9 rfl rfl (Nat.le_of_ble_eq_true rfl) dX3_init_6 (fun H locs hP hD hS => ?_)
  have hP : va_P D vwCl [(h0, Sum.inr (3, [.int 0, .int 0, .int 0, .int 0, .int 0, .int 0, .int 0, .null, .null, .null, .null, .null]))] H := hP
  have hD : va_D A [(h0, Sum.inr (3, [.int 0, .int 0, .int 0, .int 0, .int 0, .int 0, .int 0, .null, .null, .null, .null, .null]))] := hD
  refine lv_aload_n hx hb dX3_init_9 rfl (lv_at hl 0 rfl) ?_
  refine lv_iconst (v := 0) hx hb dX3_init_10 (by decide) ?_
  refine nb_put (v := .int 0) hx hb ht hown hK rfl hP hD hS fpX3_15 rfl rfl (Nat.le_of_ble_eq_true rfl) dX3_init_11 (fun H locs hP hD hS => ?_)
  have hP : va_P D vwCl [(h0, Sum.inr (3, [.int 0, .int 0, .int 0, .int 0, .int 0, .int 0, .int 0, .null, .null, .null, .null, .null]))] H := hP
  have hD : va_D A [(h0, Sum.inr (3, [.int 0, .int 0, .int 0, .int 0, .int 0, .int 0, .int 0, .null, .null, .null, .null, .null]))] := hD
  refine lv_aload_n hx hb dX3_init_14 rfl (lv_at hl 0 rfl) ?_
  refine lv_iconst (v := 0) hx hb dX3_init_15 (by decide) ?_
  refine nb_put (v := .int 0) hx hb ht hown hK rfl hP hD hS fpX3_18 rfl rfl (Nat.le_of_ble_eq_true rfl) dX3_init_16 (fun H locs hP hD hS => ?_)
  have hP : va_P D vwCl [(h0, Sum.inr (3, [.int 0, .int 0, .int 0, .int 0, .int 0, .int 0, .int 0, .null, .null, .null, .null, .null]))] H := hP
  have hD : va_D A [(h0, Sum.inr (3, [.int 0, .int 0, .int 0, .int 0, .int 0, .int 0, .int 0, .null, .null, .null, .null, .null]))] := hD
  refine lv_aload_n hx hb dX3_init_19 rfl (lv_at hl 0 rfl) ?_
  refine lv_iconst (v := 0) hx hb dX3_init_20 (by decide) ?_
  refine nb_put (v := .int 0) hx hb ht hown hK rfl hP hD hS fpX3_21 rfl rfl (Nat.le_of_ble_eq_true rfl) dX3_init_21 (fun H locs hP hD hS => ?_)
  have hP : va_P D vwCl [(h0, Sum.inr (3, [.int 0, .int 0, .int 0, .int 0, .int 0, .int 0, .int 0, .null, .null, .null, .null, .null]))] H := hP
  have hD : va_D A [(h0, Sum.inr (3, [.int 0, .int 0, .int 0, .int 0, .int 0, .int 0, .int 0, .null, .null, .null, .null, .null]))] := hD
  refine lv_aload_n hx hb dX3_init_24 rfl (lv_at hl 0 rfl) ?_
  refine lv_iconst (v := 0) hx hb dX3_init_25 (by decide) ?_
  refine nb_put (v := .int 0) hx hb ht hown hK rfl hP hD hS fpX3_24 rfl rfl (Nat.le_of_ble_eq_true rfl) dX3_init_26 (fun H locs hP hD hS => ?_)
  have hP : va_P D vwCl [(h0, Sum.inr (3, [.int 0, .int 0, .int 0, .int 0, .int 0, .int 0, .int 0, .null, .null, .null, .null, .null]))] H := hP
  have hD : va_D A [(h0, Sum.inr (3, [.int 0, .int 0, .int 0, .int 0, .int 0, .int 0, .int 0, .null, .null, .null, .null, .null]))] := hD
  refine lv_aload_n hx hb dX3_init_29 rfl (lv_at hl 0 rfl) ?_
  refine lv_iconst (v := 0) hx hb dX3_init_30 (by decide) ?_
  refine nb_put (v := .int 0) hx hb ht hown hK rfl hP hD hS fpX3_27 rfl rfl (Nat.le_of_ble_eq_true rfl) dX3_init_31 (fun H locs hP hD hS => ?_)
  have hP : va_P D vwCl [(h0, Sum.inr (3, [.int 0, .int 0, .int 0, .int 0, .int 0, .int 0, .int 0, .null, .null, .null, .null, .null]))] H := hP
  have hD : va_D A [(h0, Sum.inr (3, [.int 0, .int 0, .int 0, .int 0, .int 0, .int 0, .int 0, .null, .null, .null, .null, .null]))] := hD
  refine lv_aload_n hx hb dX3_init_34 rfl (lv_at hl 0 rfl) ?_
  refine lv_iconst (v := 0) hx hb dX3_init_35 (by decide) ?_
  refine nb_put (v := .int 0) hx hb ht hown hK rfl hP hD hS fpX3_30 rfl rfl (Nat.le_of_ble_eq_true rfl) dX3_init_36 (fun H locs hP hD hS => ?_)
  have hP : va_P D vwCl [(h0, Sum.inr (3, [.int 0, .int 0, .int 0, .int 0, .int 0, .int 0, .int 0, .null, .null, .null, .null, .null]))] H := hP
  have hD : va_D A [(h0, Sum.inr (3, [.int 0, .int 0, .int 0, .int 0, .int 0, .int 0, .int 0, .null, .null, .null, .null, .null]))] := hD
  refine lv_aload_n hx hb dX3_init_39 rfl (lv_at hl 0 rfl) ?_
  refine lv_bipush (v := 10) hx hb dX3_init_40 (by decide) ?_
  refine nb_newi (cA := cA) (N := 10) hx hb ht hK hP hD hS hA (by decide) rfl (by decide) (Nat.le_of_ble_eq_true rfl) (Nat.le_of_ble_eq_true rfl) dX3_init_42 (fun q1 H hP hD hS => ?_)
  have hP : va_P D vwCl [(h0, Sum.inr (3, [.int 0, .int 0, .int 0, .int 0, .int 0, .int 0, .int 0, .null, .null, .null, .null, .null])), (q1, Sum.inl (cA 0, 10, Sum.inl zf))] H := hP
  have hD : va_D A [(h0, Sum.inr (3, [.int 0, .int 0, .int 0, .int 0, .int 0, .int 0, .int 0, .null, .null, .null, .null, .null])), (q1, Sum.inl (cA 0, 10, Sum.inl zf))] := hD
  refine nb_putF (v := .ref q1) hx hb ht hown hin hK rfl hP hD hS ffX3_33 rfl rfl (Nat.le_of_ble_eq_true rfl) dX3_init_44 (fun H locs hP hD hS => ?_)
  have hP : va_P D vwCl [(h0, Sum.inr (3, [.int 0, .int 0, .int 0, .int 0, .int 0, .int 0, .int 0, .ref q1, .null, .null, .null, .null])), (q1, Sum.inl (cA 0, 10, Sum.inl zf))] H := hP
  have hD : va_D A [(h0, Sum.inr (3, [.int 0, .int 0, .int 0, .int 0, .int 0, .int 0, .int 0, .ref q1, .null, .null, .null, .null])), (q1, Sum.inl (cA 0, 10, Sum.inl zf))] := hD
  refine lv_aload_n hx hb dX3_init_47 rfl (lv_at hl 0 rfl) ?_
  refine lv_bipush (v := 10) hx hb dX3_init_48 (by decide) ?_
  refine nb_newi (cA := cA) (N := 10) hx hb ht hK hP hD hS hA (by decide) rfl (by decide) (Nat.le_of_ble_eq_true rfl) (Nat.le_of_ble_eq_true rfl) dX3_init_50 (fun q2 H hP hD hS => ?_)
  have hP : va_P D vwCl [(h0, Sum.inr (3, [.int 0, .int 0, .int 0, .int 0, .int 0, .int 0, .int 0, .ref q1, .null, .null, .null, .null])), (q1, Sum.inl (cA 0, 10, Sum.inl zf)), (q2, Sum.inl (cA 0, 10, Sum.inl zf))] H := hP
  have hD : va_D A [(h0, Sum.inr (3, [.int 0, .int 0, .int 0, .int 0, .int 0, .int 0, .int 0, .ref q1, .null, .null, .null, .null])), (q1, Sum.inl (cA 0, 10, Sum.inl zf)), (q2, Sum.inl (cA 0, 10, Sum.inl zf))] := hD
  refine nb_putF (v := .ref q2) hx hb ht hown hin hK rfl hP hD hS ffX3_37 rfl rfl (Nat.le_of_ble_eq_true rfl) dX3_init_52 (fun H locs hP hD hS => ?_)
  have hP : va_P D vwCl [(h0, Sum.inr (3, [.int 0, .int 0, .int 0, .int 0, .int 0, .int 0, .int 0, .ref q1, .ref q2, .null, .null, .null])), (q1, Sum.inl (cA 0, 10, Sum.inl zf)), (q2, Sum.inl (cA 0, 10, Sum.inl zf))] H := hP
  have hD : va_D A [(h0, Sum.inr (3, [.int 0, .int 0, .int 0, .int 0, .int 0, .int 0, .int 0, .ref q1, .ref q2, .null, .null, .null])), (q1, Sum.inl (cA 0, 10, Sum.inl zf)), (q2, Sum.inl (cA 0, 10, Sum.inl zf))] := hD
  refine lv_aload_n hx hb dX3_init_55 rfl (lv_at hl 0 rfl) ?_
  refine lv_bipush (v := 10) hx hb dX3_init_56 (by decide) ?_
  refine nb_newi (cA := cA) (N := 10) hx hb ht hK hP hD hS hA (by decide) rfl (by decide) (Nat.le_of_ble_eq_true rfl) (Nat.le_of_ble_eq_true rfl) dX3_init_58 (fun q3 H hP hD hS => ?_)
  have hP : va_P D vwCl [(h0, Sum.inr (3, [.int 0, .int 0, .int 0, .int 0, .int 0, .int 0, .int 0, .ref q1, .ref q2, .null, .null, .null])), (q1, Sum.inl (cA 0, 10, Sum.inl zf)), (q2, Sum.inl (cA 0, 10, Sum.inl zf)), (q3, Sum.inl (cA 0, 10, Sum.inl zf))] H := hP
  have hD : va_D A [(h0, Sum.inr (3, [.int 0, .int 0, .int 0, .int 0, .int 0, .int 0, .int 0, .ref q1, .ref q2, .null, .null, .null])), (q1, Sum.inl (cA 0, 10, Sum.inl zf)), (q2, Sum.inl (cA 0, 10, Sum.inl zf)), (q3, Sum.inl (cA 0, 10, Sum.inl zf))] := hD
  refine nb_putF (v := .ref q3) hx hb ht hown hin hK rfl hP hD hS ffX3_40 rfl rfl (Nat.le_of_ble_eq_true rfl) dX3_init_60 (fun H locs hP hD hS => ?_)
  have hP : va_P D vwCl [(h0, Sum.inr (3, [.int 0, .int 0, .int 0, .int 0, .int 0, .int 0, .int 0, .ref q1, .ref q2, .ref q3, .null, .null])), (q1, Sum.inl (cA 0, 10, Sum.inl zf)), (q2, Sum.inl (cA 0, 10, Sum.inl zf)), (q3, Sum.inl (cA 0, 10, Sum.inl zf))] H := hP
  have hD : va_D A [(h0, Sum.inr (3, [.int 0, .int 0, .int 0, .int 0, .int 0, .int 0, .int 0, .ref q1, .ref q2, .ref q3, .null, .null])), (q1, Sum.inl (cA 0, 10, Sum.inl zf)), (q2, Sum.inl (cA 0, 10, Sum.inl zf)), (q3, Sum.inl (cA 0, 10, Sum.inl zf))] := hD
  refine lv_aload_n hx hb dX3_init_63 rfl (lv_at hl 0 rfl) ?_
  refine lv_bipush (v := 10) hx hb dX3_init_64 (by decide) ?_
  refine nb_newi (cA := cA) (N := 10) hx hb ht hK hP hD hS hA (by decide) rfl (by decide) (Nat.le_of_ble_eq_true rfl) (Nat.le_of_ble_eq_true rfl) dX3_init_66 (fun q4 H hP hD hS => ?_)
  have hP : va_P D vwCl [(h0, Sum.inr (3, [.int 0, .int 0, .int 0, .int 0, .int 0, .int 0, .int 0, .ref q1, .ref q2, .ref q3, .null, .null])), (q1, Sum.inl (cA 0, 10, Sum.inl zf)), (q2, Sum.inl (cA 0, 10, Sum.inl zf)), (q3, Sum.inl (cA 0, 10, Sum.inl zf)), (q4, Sum.inl (cA 0, 10, Sum.inl zf))] H := hP
  have hD : va_D A [(h0, Sum.inr (3, [.int 0, .int 0, .int 0, .int 0, .int 0, .int 0, .int 0, .ref q1, .ref q2, .ref q3, .null, .null])), (q1, Sum.inl (cA 0, 10, Sum.inl zf)), (q2, Sum.inl (cA 0, 10, Sum.inl zf)), (q3, Sum.inl (cA 0, 10, Sum.inl zf)), (q4, Sum.inl (cA 0, 10, Sum.inl zf))] := hD
  refine nb_putF (v := .ref q4) hx hb ht hown hin hK rfl hP hD hS ffX3_43 rfl rfl (Nat.le_of_ble_eq_true rfl) dX3_init_68 (fun H locs hP hD hS => ?_)
  have hP : va_P D vwCl [(h0, Sum.inr (3, [.int 0, .int 0, .int 0, .int 0, .int 0, .int 0, .int 0, .ref q1, .ref q2, .ref q3, .ref q4, .null])), (q1, Sum.inl (cA 0, 10, Sum.inl zf)), (q2, Sum.inl (cA 0, 10, Sum.inl zf)), (q3, Sum.inl (cA 0, 10, Sum.inl zf)), (q4, Sum.inl (cA 0, 10, Sum.inl zf))] H := hP
  have hD : va_D A [(h0, Sum.inr (3, [.int 0, .int 0, .int 0, .int 0, .int 0, .int 0, .int 0, .ref q1, .ref q2, .ref q3, .ref q4, .null])), (q1, Sum.inl (cA 0, 10, Sum.inl zf)), (q2, Sum.inl (cA 0, 10, Sum.inl zf)), (q3, Sum.inl (cA 0, 10, Sum.inl zf)), (q4, Sum.inl (cA 0, 10, Sum.inl zf))] := hD
  refine lv_aload_n hx hb dX3_init_71 rfl (lv_at hl 0 rfl) ?_
  refine lv_bipush (v := 10) hx hb dX3_init_72 (by decide) ?_
  refine nb_newi (cA := cA) (N := 10) hx hb ht hK hP hD hS hA (by decide) rfl (by decide) (Nat.le_of_ble_eq_true rfl) (Nat.le_of_ble_eq_true rfl) dX3_init_74 (fun q5 H hP hD hS => ?_)
  have hP : va_P D vwCl [(h0, Sum.inr (3, [.int 0, .int 0, .int 0, .int 0, .int 0, .int 0, .int 0, .ref q1, .ref q2, .ref q3, .ref q4, .null])), (q1, Sum.inl (cA 0, 10, Sum.inl zf)), (q2, Sum.inl (cA 0, 10, Sum.inl zf)), (q3, Sum.inl (cA 0, 10, Sum.inl zf)), (q4, Sum.inl (cA 0, 10, Sum.inl zf)), (q5, Sum.inl (cA 0, 10, Sum.inl zf))] H := hP
  have hD : va_D A [(h0, Sum.inr (3, [.int 0, .int 0, .int 0, .int 0, .int 0, .int 0, .int 0, .ref q1, .ref q2, .ref q3, .ref q4, .null])), (q1, Sum.inl (cA 0, 10, Sum.inl zf)), (q2, Sum.inl (cA 0, 10, Sum.inl zf)), (q3, Sum.inl (cA 0, 10, Sum.inl zf)), (q4, Sum.inl (cA 0, 10, Sum.inl zf)), (q5, Sum.inl (cA 0, 10, Sum.inl zf))] := hD
  refine nb_putF (v := .ref q5) hx hb ht hown hin hK rfl hP hD hS ffX3_46 rfl rfl (Nat.le_of_ble_eq_true rfl) dX3_init_76 (fun H locs hP hD hS => ?_)
  have hP : va_P D vwCl [(h0, Sum.inr (3, [.int 0, .int 0, .int 0, .int 0, .int 0, .int 0, .int 0, .ref q1, .ref q2, .ref q3, .ref q4, .ref q5])), (q1, Sum.inl (cA 0, 10, Sum.inl zf)), (q2, Sum.inl (cA 0, 10, Sum.inl zf)), (q3, Sum.inl (cA 0, 10, Sum.inl zf)), (q4, Sum.inl (cA 0, 10, Sum.inl zf)), (q5, Sum.inl (cA 0, 10, Sum.inl zf))] H := hP
  have hD : va_D A [(h0, Sum.inr (3, [.int 0, .int 0, .int 0, .int 0, .int 0, .int 0, .int 0, .ref q1, .ref q2, .ref q3, .ref q4, .ref q5])), (q1, Sum.inl (cA 0, 10, Sum.inl zf)), (q2, Sum.inl (cA 0, 10, Sum.inl zf)), (q3, Sum.inl (cA 0, 10, Sum.inl zf)), (q4, Sum.inl (cA 0, 10, Sum.inl zf)), (q5, Sum.inl (cA 0, 10, Sum.inl zf))] := hD
  refine W.widen (k := 5) (n := 50) (Nat.le_of_ble_eq_true rfl) (Nat.le_of_ble_eq_true rfl) ?_
  exact W.vret hx hb hr (fun t ht hW => ⟨⟨fun i => [h0, q1, q2, q3, q4, q5].getD i 0, rfl, rfl, by rw [ht]; exact hP, hD⟩, hS.F ht⟩) hS.2.2 dX3_init_79
def wAna (cA : Nat → ClassId) (q : Nat → Nat) : va_W := [((q 0), Sum.inr (0, [.ref (q 1), .ref (q 2), .ref (q 3), .ref (q 4), .ref (q 5), .ref (q 6), .ref (q 7), .int 0, .ref (q 8), .ref (q 9), .int 0])), ((q 1), Sum.inl (cA 0, 10, Sum.inl zf)), ((q 2), Sum.inl (cA 0, 10, Sum.inl zf)), ((q 3), Sum.inl (cA 0, 100, Sum.inl zf)), ((q 4), Sum.inl (cA 0, 100, Sum.inl zf)), ((q 5), Sum.inl (cA 0, 100, Sum.inl zf)), ((q 6), Sum.inl (cA 0, 100, Sum.inl zf)), ((q 7), Sum.inl (cA 0, 100, Sum.inl zf)), ((q 8), Sum.inl (cA 0, 100, Sum.inl zf)), ((q 9), Sum.inl (cA 0, 100, Sum.inl zf))]
set_option maxHeartbeats 4000000 in
set_option maxRecDepth 100000 in
theorem mk_X0 {l : Launch} {D : va_G} {cA : Nat → ClassId} : Mk (S := Nat → Nat) l D cA yX0_init iX0_init 1 9 720 0 fsX0 (fun q => q 0) (wAna cA) := by
  intro h0 sz
  refine Met.ofW (cc := cX0_init) (maxL := 1) (ret := none) (by decide) rfl ?_
  intro p e s m args below meth c s₁ B hml hv
  obtain ⟨rfl, hsz, hP, hK⟩ := hv
  have hx := B.exec
  have hb := B.bytes
  have hr := B.returns
  have ht0 := atoms_spec (ws := wsG yX0_init iX0_init) B.pre
  have ht : ∀ w ∈ GW, w.before [Value.ref h0].toArray s = true := fun w hw => ht0 w (List.mem_cons_of_mem _ hw)
  have hown : s.vm.findClass RX0 = some m.cls := findClass_of_methodNamed B.named
  have hlocks := B.notSynchronized
  have hin : meth.name = "<init>" := (name_of_methodNamed B.named B.method).1
  subst hsz
  have hD := (nb_D1 (x := (h0, Sum.inr (0, fsX0)))).self (sz := s.heap.size)
  generalize hAe : va_A [(h0, Sum.inr (0, fsX0))] s.heap.size = A at hD ⊢
  have hA : ∀ q : Nat, s.heap.size ≤ q → A q := fun q h => by rw [← hAe]; exact Or.inr h
  have hS : va_S A s.heap s.heap [] := va_S.rf
  have hl := lv_entry ([.ref h0]) (n := 1) (Nat.le_of_ble_eq_true rfl)
  rw [lg_entry_eq]
  generalize (lg_sl ([.ref h0]) ++ List.replicate (1 - (lg_sl ([.ref h0])).length) Slot.unset).toArray = ls at hl ⊢
  have hl : lv_has ls 1 [(0, .ref h0)] := hl
  have hP : va_P D vwCl [(h0, Sum.inr (0, [.null, .null, .null, .null, .null, .null, .null, .int 0, .null, .null, .int 0]))] s.heap := hP
  have hD : va_D A [(h0, Sum.inr (0, [.null, .null, .null, .null, .null, .null, .null, .int 0, .null, .null, .int 0]))] := hD
  refine lv_aload_n hx hb dX0_init_0 rfl (lv_at hl 0 rfl) ?_
  refine W.objInit hx hb hown (ht _ oiX0) (ht _ gw_oiM) (ht _ gw_oiC) rfl (by rw [hml]; exact hl.1) rfl dX0_init_1 (Nat.le_of_ble_eq_true rfl) (Nat.le_of_ble_eq_true rfl) ?_
  refine W.eq (g2 := F0 m 4 ls []) rfl ?_
  refine lv_aload_n hx hb dX0_init_4 rfl (lv_at hl 0 rfl) ?_
  refine lv_bipush (v := 10) hx hb dX0_init_5 (by decide) ?_
  refine nb_newi (cA := cA) (N := 10) hx hb ht hK hP hD hS hA (by decide) rfl (by decide) (Nat.le_of_ble_eq_true rfl) (Nat.le_of_ble_eq_true rfl) dX0_init_7 (fun q1 H hP hD hS => ?_)
  have hP : va_P D vwCl [(h0, Sum.inr (0, [.null, .null, .null, .null, .null, .null, .null, .int 0, .null, .null, .int 0])), (q1, Sum.inl (cA 0, 10, Sum.inl zf))] H := hP
  have hD : va_D A [(h0, Sum.inr (0, [.null, .null, .null, .null, .null, .null, .null, .int 0, .null, .null, .int 0])), (q1, Sum.inl (cA 0, 10, Sum.inl zf))] := hD
  refine nb_putF (v := .ref q1) hx hb ht hown hin hK rfl hP hD hS ffX0_9 rfl rfl (Nat.le_of_ble_eq_true rfl) dX0_init_9 (fun H locs hP hD hS => ?_)
  have hP : va_P D vwCl [(h0, Sum.inr (0, [.ref q1, .null, .null, .null, .null, .null, .null, .int 0, .null, .null, .int 0])), (q1, Sum.inl (cA 0, 10, Sum.inl zf))] H := hP
  have hD : va_D A [(h0, Sum.inr (0, [.ref q1, .null, .null, .null, .null, .null, .null, .int 0, .null, .null, .int 0])), (q1, Sum.inl (cA 0, 10, Sum.inl zf))] := hD
  refine lv_aload_n hx hb dX0_init_12 rfl (lv_at hl 0 rfl) ?_
  refine lv_bipush (v := 10) hx hb dX0_init_13 (by decide) ?_
  refine nb_newi (cA := cA) (N := 10) hx hb ht hK hP hD hS hA (by decide) rfl (by decide) (Nat.le_of_ble_eq_true rfl) (Nat.le_of_ble_eq_true rfl) dX0_init_15 (fun q2 H hP hD hS => ?_)
  have hP : va_P D vwCl [(h0, Sum.inr (0, [.ref q1, .null, .null, .null, .null, .null, .null, .int 0, .null, .null, .int 0])), (q1, Sum.inl (cA 0, 10, Sum.inl zf)), (q2, Sum.inl (cA 0, 10, Sum.inl zf))] H := hP
  have hD : va_D A [(h0, Sum.inr (0, [.ref q1, .null, .null, .null, .null, .null, .null, .int 0, .null, .null, .int 0])), (q1, Sum.inl (cA 0, 10, Sum.inl zf)), (q2, Sum.inl (cA 0, 10, Sum.inl zf))] := hD
  refine nb_putF (v := .ref q2) hx hb ht hown hin hK rfl hP hD hS ffX0_15 rfl rfl (Nat.le_of_ble_eq_true rfl) dX0_init_17 (fun H locs hP hD hS => ?_)
  have hP : va_P D vwCl [(h0, Sum.inr (0, [.ref q1, .ref q2, .null, .null, .null, .null, .null, .int 0, .null, .null, .int 0])), (q1, Sum.inl (cA 0, 10, Sum.inl zf)), (q2, Sum.inl (cA 0, 10, Sum.inl zf))] H := hP
  have hD : va_D A [(h0, Sum.inr (0, [.ref q1, .ref q2, .null, .null, .null, .null, .null, .int 0, .null, .null, .int 0])), (q1, Sum.inl (cA 0, 10, Sum.inl zf)), (q2, Sum.inl (cA 0, 10, Sum.inl zf))] := hD
  refine lv_aload_n hx hb dX0_init_20 rfl (lv_at hl 0 rfl) ?_
  refine lv_bipush (v := 100) hx hb dX0_init_21 (by decide) ?_
  refine nb_newi (cA := cA) (N := 100) hx hb ht hK hP hD hS hA (by decide) rfl (by decide) (Nat.le_of_ble_eq_true rfl) (Nat.le_of_ble_eq_true rfl) dX0_init_23 (fun q3 H hP hD hS => ?_)
  have hP : va_P D vwCl [(h0, Sum.inr (0, [.ref q1, .ref q2, .null, .null, .null, .null, .null, .int 0, .null, .null, .int 0])), (q1, Sum.inl (cA 0, 10, Sum.inl zf)), (q2, Sum.inl (cA 0, 10, Sum.inl zf)), (q3, Sum.inl (cA 0, 100, Sum.inl zf))] H := hP
  have hD : va_D A [(h0, Sum.inr (0, [.ref q1, .ref q2, .null, .null, .null, .null, .null, .int 0, .null, .null, .int 0])), (q1, Sum.inl (cA 0, 10, Sum.inl zf)), (q2, Sum.inl (cA 0, 10, Sum.inl zf)), (q3, Sum.inl (cA 0, 100, Sum.inl zf))] := hD
  refine nb_putF (v := .ref q3) hx hb ht hown hin hK rfl hP hD hS ffX0_18 rfl rfl (Nat.le_of_ble_eq_true rfl) dX0_init_25 (fun H locs hP hD hS => ?_)
  have hP : va_P D vwCl [(h0, Sum.inr (0, [.ref q1, .ref q2, .ref q3, .null, .null, .null, .null, .int 0, .null, .null, .int 0])), (q1, Sum.inl (cA 0, 10, Sum.inl zf)), (q2, Sum.inl (cA 0, 10, Sum.inl zf)), (q3, Sum.inl (cA 0, 100, Sum.inl zf))] H := hP
  have hD : va_D A [(h0, Sum.inr (0, [.ref q1, .ref q2, .ref q3, .null, .null, .null, .null, .int 0, .null, .null, .int 0])), (q1, Sum.inl (cA 0, 10, Sum.inl zf)), (q2, Sum.inl (cA 0, 10, Sum.inl zf)), (q3, Sum.inl (cA 0, 100, Sum.inl zf))] := hD
  refine lv_aload_n hx hb dX0_init_28 rfl (lv_at hl 0 rfl) ?_
  refine lv_bipush (v := 100) hx hb dX0_init_29 (by decide) ?_
  refine nb_newi (cA := cA) (N := 100) hx hb ht hK hP hD hS hA (by decide) rfl (by decide) (Nat.le_of_ble_eq_true rfl) (Nat.le_of_ble_eq_true rfl) dX0_init_31 (fun q4 H hP hD hS => ?_)
  have hP : va_P D vwCl [(h0, Sum.inr (0, [.ref q1, .ref q2, .ref q3, .null, .null, .null, .null, .int 0, .null, .null, .int 0])), (q1, Sum.inl (cA 0, 10, Sum.inl zf)), (q2, Sum.inl (cA 0, 10, Sum.inl zf)), (q3, Sum.inl (cA 0, 100, Sum.inl zf)), (q4, Sum.inl (cA 0, 100, Sum.inl zf))] H := hP
  have hD : va_D A [(h0, Sum.inr (0, [.ref q1, .ref q2, .ref q3, .null, .null, .null, .null, .int 0, .null, .null, .int 0])), (q1, Sum.inl (cA 0, 10, Sum.inl zf)), (q2, Sum.inl (cA 0, 10, Sum.inl zf)), (q3, Sum.inl (cA 0, 100, Sum.inl zf)), (q4, Sum.inl (cA 0, 100, Sum.inl zf))] := hD
  refine nb_putF (v := .ref q4) hx hb ht hown hin hK rfl hP hD hS ffX0_21 rfl rfl (Nat.le_of_ble_eq_true rfl) dX0_init_33 (fun H locs hP hD hS => ?_)
  have hP : va_P D vwCl [(h0, Sum.inr (0, [.ref q1, .ref q2, .ref q3, .ref q4, .null, .null, .null, .int 0, .null, .null, .int 0])), (q1, Sum.inl (cA 0, 10, Sum.inl zf)), (q2, Sum.inl (cA 0, 10, Sum.inl zf)), (q3, Sum.inl (cA 0, 100, Sum.inl zf)), (q4, Sum.inl (cA 0, 100, Sum.inl zf))] H := hP
  have hD : va_D A [(h0, Sum.inr (0, [.ref q1, .ref q2, .ref q3, .ref q4, .null, .null, .null, .int 0, .null, .null, .int 0])), (q1, Sum.inl (cA 0, 10, Sum.inl zf)), (q2, Sum.inl (cA 0, 10, Sum.inl zf)), (q3, Sum.inl (cA 0, 100, Sum.inl zf)), (q4, Sum.inl (cA 0, 100, Sum.inl zf))] := hD
  refine lv_aload_n hx hb dX0_init_36 rfl (lv_at hl 0 rfl) ?_
  refine lv_bipush (v := 100) hx hb dX0_init_37 (by decide) ?_
  refine nb_newi (cA := cA) (N := 100) hx hb ht hK hP hD hS hA (by decide) rfl (by decide) (Nat.le_of_ble_eq_true rfl) (Nat.le_of_ble_eq_true rfl) dX0_init_39 (fun q5 H hP hD hS => ?_)
  have hP : va_P D vwCl [(h0, Sum.inr (0, [.ref q1, .ref q2, .ref q3, .ref q4, .null, .null, .null, .int 0, .null, .null, .int 0])), (q1, Sum.inl (cA 0, 10, Sum.inl zf)), (q2, Sum.inl (cA 0, 10, Sum.inl zf)), (q3, Sum.inl (cA 0, 100, Sum.inl zf)), (q4, Sum.inl (cA 0, 100, Sum.inl zf)), (q5, Sum.inl (cA 0, 100, Sum.inl zf))] H := hP
  have hD : va_D A [(h0, Sum.inr (0, [.ref q1, .ref q2, .ref q3, .ref q4, .null, .null, .null, .int 0, .null, .null, .int 0])), (q1, Sum.inl (cA 0, 10, Sum.inl zf)), (q2, Sum.inl (cA 0, 10, Sum.inl zf)), (q3, Sum.inl (cA 0, 100, Sum.inl zf)), (q4, Sum.inl (cA 0, 100, Sum.inl zf)), (q5, Sum.inl (cA 0, 100, Sum.inl zf))] := hD
  refine nb_putF (v := .ref q5) hx hb ht hown hin hK rfl hP hD hS ffX0_24 rfl rfl (Nat.le_of_ble_eq_true rfl) dX0_init_41 (fun H locs hP hD hS => ?_)
  have hP : va_P D vwCl [(h0, Sum.inr (0, [.ref q1, .ref q2, .ref q3, .ref q4, .ref q5, .null, .null, .int 0, .null, .null, .int 0])), (q1, Sum.inl (cA 0, 10, Sum.inl zf)), (q2, Sum.inl (cA 0, 10, Sum.inl zf)), (q3, Sum.inl (cA 0, 100, Sum.inl zf)), (q4, Sum.inl (cA 0, 100, Sum.inl zf)), (q5, Sum.inl (cA 0, 100, Sum.inl zf))] H := hP
  have hD : va_D A [(h0, Sum.inr (0, [.ref q1, .ref q2, .ref q3, .ref q4, .ref q5, .null, .null, .int 0, .null, .null, .int 0])), (q1, Sum.inl (cA 0, 10, Sum.inl zf)), (q2, Sum.inl (cA 0, 10, Sum.inl zf)), (q3, Sum.inl (cA 0, 100, Sum.inl zf)), (q4, Sum.inl (cA 0, 100, Sum.inl zf)), (q5, Sum.inl (cA 0, 100, Sum.inl zf))] := hD
  refine lv_aload_n hx hb dX0_init_44 rfl (lv_at hl 0 rfl) ?_
  refine lv_bipush (v := 100) hx hb dX0_init_45 (by decide) ?_
  refine nb_newi (cA := cA) (N := 100) hx hb ht hK hP hD hS hA (by decide) rfl (by decide) (Nat.le_of_ble_eq_true rfl) (Nat.le_of_ble_eq_true rfl) dX0_init_47 (fun q6 H hP hD hS => ?_)
  have hP : va_P D vwCl [(h0, Sum.inr (0, [.ref q1, .ref q2, .ref q3, .ref q4, .ref q5, .null, .null, .int 0, .null, .null, .int 0])), (q1, Sum.inl (cA 0, 10, Sum.inl zf)), (q2, Sum.inl (cA 0, 10, Sum.inl zf)), (q3, Sum.inl (cA 0, 100, Sum.inl zf)), (q4, Sum.inl (cA 0, 100, Sum.inl zf)), (q5, Sum.inl (cA 0, 100, Sum.inl zf)), (q6, Sum.inl (cA 0, 100, Sum.inl zf))] H := hP
  have hD : va_D A [(h0, Sum.inr (0, [.ref q1, .ref q2, .ref q3, .ref q4, .ref q5, .null, .null, .int 0, .null, .null, .int 0])), (q1, Sum.inl (cA 0, 10, Sum.inl zf)), (q2, Sum.inl (cA 0, 10, Sum.inl zf)), (q3, Sum.inl (cA 0, 100, Sum.inl zf)), (q4, Sum.inl (cA 0, 100, Sum.inl zf)), (q5, Sum.inl (cA 0, 100, Sum.inl zf)), (q6, Sum.inl (cA 0, 100, Sum.inl zf))] := hD
  refine nb_putF (v := .ref q6) hx hb ht hown hin hK rfl hP hD hS ffX0_27 rfl rfl (Nat.le_of_ble_eq_true rfl) dX0_init_49 (fun H locs hP hD hS => ?_)
  have hP : va_P D vwCl [(h0, Sum.inr (0, [.ref q1, .ref q2, .ref q3, .ref q4, .ref q5, .ref q6, .null, .int 0, .null, .null, .int 0])), (q1, Sum.inl (cA 0, 10, Sum.inl zf)), (q2, Sum.inl (cA 0, 10, Sum.inl zf)), (q3, Sum.inl (cA 0, 100, Sum.inl zf)), (q4, Sum.inl (cA 0, 100, Sum.inl zf)), (q5, Sum.inl (cA 0, 100, Sum.inl zf)), (q6, Sum.inl (cA 0, 100, Sum.inl zf))] H := hP
  have hD : va_D A [(h0, Sum.inr (0, [.ref q1, .ref q2, .ref q3, .ref q4, .ref q5, .ref q6, .null, .int 0, .null, .null, .int 0])), (q1, Sum.inl (cA 0, 10, Sum.inl zf)), (q2, Sum.inl (cA 0, 10, Sum.inl zf)), (q3, Sum.inl (cA 0, 100, Sum.inl zf)), (q4, Sum.inl (cA 0, 100, Sum.inl zf)), (q5, Sum.inl (cA 0, 100, Sum.inl zf)), (q6, Sum.inl (cA 0, 100, Sum.inl zf))] := hD
  refine lv_aload_n hx hb dX0_init_52 rfl (lv_at hl 0 rfl) ?_
  refine lv_bipush (v := 100) hx hb dX0_init_53 (by decide) ?_
  refine nb_newi (cA := cA) (N := 100) hx hb ht hK hP hD hS hA (by decide) rfl (by decide) (Nat.le_of_ble_eq_true rfl) (Nat.le_of_ble_eq_true rfl) dX0_init_55 (fun q7 H hP hD hS => ?_)
  have hP : va_P D vwCl [(h0, Sum.inr (0, [.ref q1, .ref q2, .ref q3, .ref q4, .ref q5, .ref q6, .null, .int 0, .null, .null, .int 0])), (q1, Sum.inl (cA 0, 10, Sum.inl zf)), (q2, Sum.inl (cA 0, 10, Sum.inl zf)), (q3, Sum.inl (cA 0, 100, Sum.inl zf)), (q4, Sum.inl (cA 0, 100, Sum.inl zf)), (q5, Sum.inl (cA 0, 100, Sum.inl zf)), (q6, Sum.inl (cA 0, 100, Sum.inl zf)), (q7, Sum.inl (cA 0, 100, Sum.inl zf))] H := hP
  have hD : va_D A [(h0, Sum.inr (0, [.ref q1, .ref q2, .ref q3, .ref q4, .ref q5, .ref q6, .null, .int 0, .null, .null, .int 0])), (q1, Sum.inl (cA 0, 10, Sum.inl zf)), (q2, Sum.inl (cA 0, 10, Sum.inl zf)), (q3, Sum.inl (cA 0, 100, Sum.inl zf)), (q4, Sum.inl (cA 0, 100, Sum.inl zf)), (q5, Sum.inl (cA 0, 100, Sum.inl zf)), (q6, Sum.inl (cA 0, 100, Sum.inl zf)), (q7, Sum.inl (cA 0, 100, Sum.inl zf))] := hD
  refine nb_putF (v := .ref q7) hx hb ht hown hin hK rfl hP hD hS ffX0_30 rfl rfl (Nat.le_of_ble_eq_true rfl) dX0_init_57 (fun H locs hP hD hS => ?_)
  have hP : va_P D vwCl [(h0, Sum.inr (0, [.ref q1, .ref q2, .ref q3, .ref q4, .ref q5, .ref q6, .ref q7, .int 0, .null, .null, .int 0])), (q1, Sum.inl (cA 0, 10, Sum.inl zf)), (q2, Sum.inl (cA 0, 10, Sum.inl zf)), (q3, Sum.inl (cA 0, 100, Sum.inl zf)), (q4, Sum.inl (cA 0, 100, Sum.inl zf)), (q5, Sum.inl (cA 0, 100, Sum.inl zf)), (q6, Sum.inl (cA 0, 100, Sum.inl zf)), (q7, Sum.inl (cA 0, 100, Sum.inl zf))] H := hP
  have hD : va_D A [(h0, Sum.inr (0, [.ref q1, .ref q2, .ref q3, .ref q4, .ref q5, .ref q6, .ref q7, .int 0, .null, .null, .int 0])), (q1, Sum.inl (cA 0, 10, Sum.inl zf)), (q2, Sum.inl (cA 0, 10, Sum.inl zf)), (q3, Sum.inl (cA 0, 100, Sum.inl zf)), (q4, Sum.inl (cA 0, 100, Sum.inl zf)), (q5, Sum.inl (cA 0, 100, Sum.inl zf)), (q6, Sum.inl (cA 0, 100, Sum.inl zf)), (q7, Sum.inl (cA 0, 100, Sum.inl zf))] := hD
  refine lv_aload_n hx hb dX0_init_60 rfl (lv_at hl 0 rfl) ?_
  refine lv_iconst (v := 0) hx hb dX0_init_61 (by decide) ?_
  refine nb_put (v := .int 0) hx hb ht hown hK rfl hP hD hS fpX0_33 rfl rfl (Nat.le_of_ble_eq_true rfl) dX0_init_62 (fun H locs hP hD hS => ?_)
  have hP : va_P D vwCl [(h0, Sum.inr (0, [.ref q1, .ref q2, .ref q3, .ref q4, .ref q5, .ref q6, .ref q7, .int 0, .null, .null, .int 0])), (q1, Sum.inl (cA 0, 10, Sum.inl zf)), (q2, Sum.inl (cA 0, 10, Sum.inl zf)), (q3, Sum.inl (cA 0, 100, Sum.inl zf)), (q4, Sum.inl (cA 0, 100, Sum.inl zf)), (q5, Sum.inl (cA 0, 100, Sum.inl zf)), (q6, Sum.inl (cA 0, 100, Sum.inl zf)), (q7, Sum.inl (cA 0, 100, Sum.inl zf))] H := hP
  have hD : va_D A [(h0, Sum.inr (0, [.ref q1, .ref q2, .ref q3, .ref q4, .ref q5, .ref q6, .ref q7, .int 0, .null, .null, .int 0])), (q1, Sum.inl (cA 0, 10, Sum.inl zf)), (q2, Sum.inl (cA 0, 10, Sum.inl zf)), (q3, Sum.inl (cA 0, 100, Sum.inl zf)), (q4, Sum.inl (cA 0, 100, Sum.inl zf)), (q5, Sum.inl (cA 0, 100, Sum.inl zf)), (q6, Sum.inl (cA 0, 100, Sum.inl zf)), (q7, Sum.inl (cA 0, 100, Sum.inl zf))] := hD
  refine lv_aload_n hx hb dX0_init_65 rfl (lv_at hl 0 rfl) ?_
  refine lv_bipush (v := 100) hx hb dX0_init_66 (by decide) ?_
  refine nb_newi (cA := cA) (N := 100) hx hb ht hK hP hD hS hA (by decide) rfl (by decide) (Nat.le_of_ble_eq_true rfl) (Nat.le_of_ble_eq_true rfl) dX0_init_68 (fun q8 H hP hD hS => ?_)
  have hP : va_P D vwCl [(h0, Sum.inr (0, [.ref q1, .ref q2, .ref q3, .ref q4, .ref q5, .ref q6, .ref q7, .int 0, .null, .null, .int 0])), (q1, Sum.inl (cA 0, 10, Sum.inl zf)), (q2, Sum.inl (cA 0, 10, Sum.inl zf)), (q3, Sum.inl (cA 0, 100, Sum.inl zf)), (q4, Sum.inl (cA 0, 100, Sum.inl zf)), (q5, Sum.inl (cA 0, 100, Sum.inl zf)), (q6, Sum.inl (cA 0, 100, Sum.inl zf)), (q7, Sum.inl (cA 0, 100, Sum.inl zf)), (q8, Sum.inl (cA 0, 100, Sum.inl zf))] H := hP
  have hD : va_D A [(h0, Sum.inr (0, [.ref q1, .ref q2, .ref q3, .ref q4, .ref q5, .ref q6, .ref q7, .int 0, .null, .null, .int 0])), (q1, Sum.inl (cA 0, 10, Sum.inl zf)), (q2, Sum.inl (cA 0, 10, Sum.inl zf)), (q3, Sum.inl (cA 0, 100, Sum.inl zf)), (q4, Sum.inl (cA 0, 100, Sum.inl zf)), (q5, Sum.inl (cA 0, 100, Sum.inl zf)), (q6, Sum.inl (cA 0, 100, Sum.inl zf)), (q7, Sum.inl (cA 0, 100, Sum.inl zf)), (q8, Sum.inl (cA 0, 100, Sum.inl zf))] := hD
  refine nb_putF (v := .ref q8) hx hb ht hown hin hK rfl hP hD hS ffX0_37 rfl rfl (Nat.le_of_ble_eq_true rfl) dX0_init_70 (fun H locs hP hD hS => ?_)
  have hP : va_P D vwCl [(h0, Sum.inr (0, [.ref q1, .ref q2, .ref q3, .ref q4, .ref q5, .ref q6, .ref q7, .int 0, .ref q8, .null, .int 0])), (q1, Sum.inl (cA 0, 10, Sum.inl zf)), (q2, Sum.inl (cA 0, 10, Sum.inl zf)), (q3, Sum.inl (cA 0, 100, Sum.inl zf)), (q4, Sum.inl (cA 0, 100, Sum.inl zf)), (q5, Sum.inl (cA 0, 100, Sum.inl zf)), (q6, Sum.inl (cA 0, 100, Sum.inl zf)), (q7, Sum.inl (cA 0, 100, Sum.inl zf)), (q8, Sum.inl (cA 0, 100, Sum.inl zf))] H := hP
  have hD : va_D A [(h0, Sum.inr (0, [.ref q1, .ref q2, .ref q3, .ref q4, .ref q5, .ref q6, .ref q7, .int 0, .ref q8, .null, .int 0])), (q1, Sum.inl (cA 0, 10, Sum.inl zf)), (q2, Sum.inl (cA 0, 10, Sum.inl zf)), (q3, Sum.inl (cA 0, 100, Sum.inl zf)), (q4, Sum.inl (cA 0, 100, Sum.inl zf)), (q5, Sum.inl (cA 0, 100, Sum.inl zf)), (q6, Sum.inl (cA 0, 100, Sum.inl zf)), (q7, Sum.inl (cA 0, 100, Sum.inl zf)), (q8, Sum.inl (cA 0, 100, Sum.inl zf))] := hD
  refine lv_aload_n hx hb dX0_init_73 rfl (lv_at hl 0 rfl) ?_
  refine lv_bipush (v := 100) hx hb dX0_init_74 (by decide) ?_
  refine nb_newi (cA := cA) (N := 100) hx hb ht hK hP hD hS hA (by decide) rfl (by decide) (Nat.le_of_ble_eq_true rfl) (Nat.le_of_ble_eq_true rfl) dX0_init_76 (fun q9 H hP hD hS => ?_)
  have hP : va_P D vwCl [(h0, Sum.inr (0, [.ref q1, .ref q2, .ref q3, .ref q4, .ref q5, .ref q6, .ref q7, .int 0, .ref q8, .null, .int 0])), (q1, Sum.inl (cA 0, 10, Sum.inl zf)), (q2, Sum.inl (cA 0, 10, Sum.inl zf)), (q3, Sum.inl (cA 0, 100, Sum.inl zf)), (q4, Sum.inl (cA 0, 100, Sum.inl zf)), (q5, Sum.inl (cA 0, 100, Sum.inl zf)), (q6, Sum.inl (cA 0, 100, Sum.inl zf)), (q7, Sum.inl (cA 0, 100, Sum.inl zf)), (q8, Sum.inl (cA 0, 100, Sum.inl zf)), (q9, Sum.inl (cA 0, 100, Sum.inl zf))] H := hP
  have hD : va_D A [(h0, Sum.inr (0, [.ref q1, .ref q2, .ref q3, .ref q4, .ref q5, .ref q6, .ref q7, .int 0, .ref q8, .null, .int 0])), (q1, Sum.inl (cA 0, 10, Sum.inl zf)), (q2, Sum.inl (cA 0, 10, Sum.inl zf)), (q3, Sum.inl (cA 0, 100, Sum.inl zf)), (q4, Sum.inl (cA 0, 100, Sum.inl zf)), (q5, Sum.inl (cA 0, 100, Sum.inl zf)), (q6, Sum.inl (cA 0, 100, Sum.inl zf)), (q7, Sum.inl (cA 0, 100, Sum.inl zf)), (q8, Sum.inl (cA 0, 100, Sum.inl zf)), (q9, Sum.inl (cA 0, 100, Sum.inl zf))] := hD
  refine nb_putF (v := .ref q9) hx hb ht hown hin hK rfl hP hD hS ffX0_40 rfl rfl (Nat.le_of_ble_eq_true rfl) dX0_init_78 (fun H locs hP hD hS => ?_)
  have hP : va_P D vwCl [(h0, Sum.inr (0, [.ref q1, .ref q2, .ref q3, .ref q4, .ref q5, .ref q6, .ref q7, .int 0, .ref q8, .ref q9, .int 0])), (q1, Sum.inl (cA 0, 10, Sum.inl zf)), (q2, Sum.inl (cA 0, 10, Sum.inl zf)), (q3, Sum.inl (cA 0, 100, Sum.inl zf)), (q4, Sum.inl (cA 0, 100, Sum.inl zf)), (q5, Sum.inl (cA 0, 100, Sum.inl zf)), (q6, Sum.inl (cA 0, 100, Sum.inl zf)), (q7, Sum.inl (cA 0, 100, Sum.inl zf)), (q8, Sum.inl (cA 0, 100, Sum.inl zf)), (q9, Sum.inl (cA 0, 100, Sum.inl zf))] H := hP
  have hD : va_D A [(h0, Sum.inr (0, [.ref q1, .ref q2, .ref q3, .ref q4, .ref q5, .ref q6, .ref q7, .int 0, .ref q8, .ref q9, .int 0])), (q1, Sum.inl (cA 0, 10, Sum.inl zf)), (q2, Sum.inl (cA 0, 10, Sum.inl zf)), (q3, Sum.inl (cA 0, 100, Sum.inl zf)), (q4, Sum.inl (cA 0, 100, Sum.inl zf)), (q5, Sum.inl (cA 0, 100, Sum.inl zf)), (q6, Sum.inl (cA 0, 100, Sum.inl zf)), (q7, Sum.inl (cA 0, 100, Sum.inl zf)), (q8, Sum.inl (cA 0, 100, Sum.inl zf)), (q9, Sum.inl (cA 0, 100, Sum.inl zf))] := hD
  refine lv_aload_n hx hb dX0_init_81 rfl (lv_at hl 0 rfl) ?_
  refine lv_iconst (v := 0) hx hb dX0_init_82 (by decide) ?_
  refine nb_put (v := .int 0) hx hb ht hown hK rfl hP hD hS fpX0_43 rfl rfl (Nat.le_of_ble_eq_true rfl) dX0_init_83 (fun H locs hP hD hS => ?_)
  have hP : va_P D vwCl [(h0, Sum.inr (0, [.ref q1, .ref q2, .ref q3, .ref q4, .ref q5, .ref q6, .ref q7, .int 0, .ref q8, .ref q9, .int 0])), (q1, Sum.inl (cA 0, 10, Sum.inl zf)), (q2, Sum.inl (cA 0, 10, Sum.inl zf)), (q3, Sum.inl (cA 0, 100, Sum.inl zf)), (q4, Sum.inl (cA 0, 100, Sum.inl zf)), (q5, Sum.inl (cA 0, 100, Sum.inl zf)), (q6, Sum.inl (cA 0, 100, Sum.inl zf)), (q7, Sum.inl (cA 0, 100, Sum.inl zf)), (q8, Sum.inl (cA 0, 100, Sum.inl zf)), (q9, Sum.inl (cA 0, 100, Sum.inl zf))] H := hP
  have hD : va_D A [(h0, Sum.inr (0, [.ref q1, .ref q2, .ref q3, .ref q4, .ref q5, .ref q6, .ref q7, .int 0, .ref q8, .ref q9, .int 0])), (q1, Sum.inl (cA 0, 10, Sum.inl zf)), (q2, Sum.inl (cA 0, 10, Sum.inl zf)), (q3, Sum.inl (cA 0, 100, Sum.inl zf)), (q4, Sum.inl (cA 0, 100, Sum.inl zf)), (q5, Sum.inl (cA 0, 100, Sum.inl zf)), (q6, Sum.inl (cA 0, 100, Sum.inl zf)), (q7, Sum.inl (cA 0, 100, Sum.inl zf)), (q8, Sum.inl (cA 0, 100, Sum.inl zf)), (q9, Sum.inl (cA 0, 100, Sum.inl zf))] := hD
  refine W.widen (k := 9) (n := 720) (Nat.le_of_ble_eq_true rfl) (Nat.le_of_ble_eq_true rfl) ?_
  exact W.vret hx hb hr (fun t ht hW => ⟨⟨fun i => [h0, q1, q2, q3, q4, q5, q6, q7, q8, q9].getD i 0, rfl, rfl, by rw [ht]; exact hP, hD⟩, hS.F ht⟩) hS.2.2 dX0_init_86
def wClo (cA : Nat → ClassId) (q : Nat → Nat) : va_W := [((q 0), Sum.inr (1, [.ref (q 1), .int 0])), ((q 1), Sum.inl (cA 0, 10, Sum.inl zf))]
set_option maxHeartbeats 4000000 in
set_option maxRecDepth 100000 in
theorem mk_X1 {l : Launch} {D : va_G} {cA : Nat → ClassId} : Mk (S := Nat → Nat) l D cA yX1_init iX1_init 1 1 10 1 fsX1 (fun q => q 0) (wClo cA) := by
  intro h0 sz
  refine Met.ofW (cc := cX1_init) (maxL := 1) (ret := none) (by decide) rfl ?_
  intro p e s m args below meth c s₁ B hml hv
  obtain ⟨rfl, hsz, hP, hK⟩ := hv
  have hx := B.exec
  have hb := B.bytes
  have hr := B.returns
  have ht0 := atoms_spec (ws := wsG yX1_init iX1_init) B.pre
  have ht : ∀ w ∈ GW, w.before [Value.ref h0].toArray s = true := fun w hw => ht0 w (List.mem_cons_of_mem _ hw)
  have hown : s.vm.findClass RX1 = some m.cls := findClass_of_methodNamed B.named
  have hlocks := B.notSynchronized
  have hin : meth.name = "<init>" := (name_of_methodNamed B.named B.method).1
  subst hsz
  have hD := (nb_D1 (x := (h0, Sum.inr (1, fsX1)))).self (sz := s.heap.size)
  generalize hAe : va_A [(h0, Sum.inr (1, fsX1))] s.heap.size = A at hD ⊢
  have hA : ∀ q : Nat, s.heap.size ≤ q → A q := fun q h => by rw [← hAe]; exact Or.inr h
  have hS : va_S A s.heap s.heap [] := va_S.rf
  have hl := lv_entry ([.ref h0]) (n := 1) (Nat.le_of_ble_eq_true rfl)
  rw [lg_entry_eq]
  generalize (lg_sl ([.ref h0]) ++ List.replicate (1 - (lg_sl ([.ref h0])).length) Slot.unset).toArray = ls at hl ⊢
  have hl : lv_has ls 1 [(0, .ref h0)] := hl
  have hP : va_P D vwCl [(h0, Sum.inr (1, [.null, .int 0]))] s.heap := hP
  have hD : va_D A [(h0, Sum.inr (1, [.null, .int 0]))] := hD
  refine lv_aload_n hx hb dX1_init_0 rfl (lv_at hl 0 rfl) ?_
  refine W.objInit hx hb hown (ht _ oiX1) (ht _ gw_oiM) (ht _ gw_oiC) rfl (by rw [hml]; exact hl.1) rfl dX1_init_1 (Nat.le_of_ble_eq_true rfl) (Nat.le_of_ble_eq_true rfl) ?_
  refine W.eq (g2 := F0 m 4 ls []) rfl ?_
  refine lv_aload_n hx hb dX1_init_4 rfl (lv_at hl 0 rfl) ?_
  refine lv_bipush (v := 10) hx hb dX1_init_5 (by decide) ?_
  refine nb_newi (cA := cA) (N := 10) hx hb ht hK hP hD hS hA (by decide) rfl (by decide) (Nat.le_of_ble_eq_true rfl) (Nat.le_of_ble_eq_true rfl) dX1_init_7 (fun q1 H hP hD hS => ?_)
  have hP : va_P D vwCl [(h0, Sum.inr (1, [.null, .int 0])), (q1, Sum.inl (cA 0, 10, Sum.inl zf))] H := hP
  have hD : va_D A [(h0, Sum.inr (1, [.null, .int 0])), (q1, Sum.inl (cA 0, 10, Sum.inl zf))] := hD
  refine nb_putF (v := .ref q1) hx hb ht hown hin hK rfl hP hD hS ffX1_9 rfl rfl (Nat.le_of_ble_eq_true rfl) dX1_init_9 (fun H locs hP hD hS => ?_)
  have hP : va_P D vwCl [(h0, Sum.inr (1, [.ref q1, .int 0])), (q1, Sum.inl (cA 0, 10, Sum.inl zf))] H := hP
  have hD : va_D A [(h0, Sum.inr (1, [.ref q1, .int 0])), (q1, Sum.inl (cA 0, 10, Sum.inl zf))] := hD
  refine lv_aload_n hx hb dX1_init_12 rfl (lv_at hl 0 rfl) ?_
  refine lv_iconst (v := 0) hx hb dX1_init_13 (by decide) ?_
  refine nb_put (v := .int 0) hx hb ht hown hK rfl hP hD hS fpX1_15 rfl rfl (Nat.le_of_ble_eq_true rfl) dX1_init_14 (fun H locs hP hD hS => ?_)
  have hP : va_P D vwCl [(h0, Sum.inr (1, [.ref q1, .int 0])), (q1, Sum.inl (cA 0, 10, Sum.inl zf))] H := hP
  have hD : va_D A [(h0, Sum.inr (1, [.ref q1, .int 0])), (q1, Sum.inl (cA 0, 10, Sum.inl zf))] := hD
  refine W.widen (k := 1) (n := 10) (Nat.le_of_ble_eq_true rfl) (Nat.le_of_ble_eq_true rfl) ?_
  exact W.vret hx hb hr (fun t ht hW => ⟨⟨fun i => [h0, q1].getD i 0, rfl, rfl, by rw [ht]; exact hP, hD⟩, hS.F ht⟩) hS.2.2 dX1_init_17
def wMod (cA : Nat → ClassId) (q : Nat → Nat) : va_W := [((q 0), Sum.inr (7, [.int 0, .ref (q 1), .ref (q 2), .ref (q 3), .int 0, .ref (q 4), .int 0, .int 0, .int 0, .int 0, .int 0, .int 0, .ref (q 5), .int 0, .ref (q 6), .ref (q 7), .int 0])), ((q 1), Sum.inl (cA 0, 81, Sum.inl zf)), ((q 2), Sum.inl (cA 0, 81, Sum.inl zf)), ((q 3), Sum.inl (cA 0, 405, Sum.inl zf)), ((q 4), Sum.inl (cA 0, 160, Sum.inl zf)), ((q 5), Sum.inl (cA 0, 100, Sum.inl zf)), ((q 6), Sum.inl (cA 1, 100, Sum.inl zf)), ((q 7), Sum.inl (cA 0, 100, Sum.inl zf))]
set_option maxHeartbeats 4000000 in
set_option maxRecDepth 100000 in
theorem mk_X7 {l : Launch} {D : va_G} {cA : Nat → ClassId} : Mk (S := Nat → Nat) l D cA yX7_init iX7_init 1 7 1027 7 fsX7 (fun q => q 0) (wMod cA) := by
  intro h0 sz
  refine Met.ofW (cc := cX7_init) (maxL := 1) (ret := none) (by decide) rfl ?_
  intro p e s m args below meth c s₁ B hml hv
  obtain ⟨rfl, hsz, hP, hK⟩ := hv
  have hx := B.exec
  have hb := B.bytes
  have hr := B.returns
  have ht0 := atoms_spec (ws := wsG yX7_init iX7_init) B.pre
  have ht : ∀ w ∈ GW, w.before [Value.ref h0].toArray s = true := fun w hw => ht0 w (List.mem_cons_of_mem _ hw)
  have hown : s.vm.findClass RX7 = some m.cls := findClass_of_methodNamed B.named
  have hlocks := B.notSynchronized
  have hin : meth.name = "<init>" := (name_of_methodNamed B.named B.method).1
  subst hsz
  have hD := (nb_D1 (x := (h0, Sum.inr (7, fsX7)))).self (sz := s.heap.size)
  generalize hAe : va_A [(h0, Sum.inr (7, fsX7))] s.heap.size = A at hD ⊢
  have hA : ∀ q : Nat, s.heap.size ≤ q → A q := fun q h => by rw [← hAe]; exact Or.inr h
  have hS : va_S A s.heap s.heap [] := va_S.rf
  have hl := lv_entry ([.ref h0]) (n := 1) (Nat.le_of_ble_eq_true rfl)
  rw [lg_entry_eq]
  generalize (lg_sl ([.ref h0]) ++ List.replicate (1 - (lg_sl ([.ref h0])).length) Slot.unset).toArray = ls at hl ⊢
  have hl : lv_has ls 1 [(0, .ref h0)] := hl
  have hP : va_P D vwCl [(h0, Sum.inr (7, [.int 0, .null, .null, .null, .int 0, .null, .int 0, .int 0, .int 0, .int 0, .int 0, .int 0, .null, .int 0, .null, .null, .int 0]))] s.heap := hP
  have hD : va_D A [(h0, Sum.inr (7, [.int 0, .null, .null, .null, .int 0, .null, .int 0, .int 0, .int 0, .int 0, .int 0, .int 0, .null, .int 0, .null, .null, .int 0]))] := hD
  refine lv_aload_n hx hb dX7_init_0 rfl (lv_at hl 0 rfl) ?_
  refine W.objInit hx hb hown (ht _ oiX7) (ht _ gw_oiM) (ht _ gw_oiC) rfl (by rw [hml]; exact hl.1) rfl dX7_init_1 (Nat.le_of_ble_eq_true rfl) (Nat.le_of_ble_eq_true rfl) ?_
  refine W.eq (g2 := F0 m 4 ls []) rfl ?_
  refine lv_aload_n hx hb dX7_init_4 rfl (lv_at hl 0 rfl) ?_
  refine lv_bipush (v := 81) hx hb dX7_init_5 (by decide) ?_
  refine nb_newi (cA := cA) (N := 81) hx hb ht hK hP hD hS hA (by decide) rfl (by decide) (Nat.le_of_ble_eq_true rfl) (Nat.le_of_ble_eq_true rfl) dX7_init_7 (fun q1 H hP hD hS => ?_)
  have hP : va_P D vwCl [(h0, Sum.inr (7, [.int 0, .null, .null, .null, .int 0, .null, .int 0, .int 0, .int 0, .int 0, .int 0, .int 0, .null, .int 0, .null, .null, .int 0])), (q1, Sum.inl (cA 0, 81, Sum.inl zf))] H := hP
  have hD : va_D A [(h0, Sum.inr (7, [.int 0, .null, .null, .null, .int 0, .null, .int 0, .int 0, .int 0, .int 0, .int 0, .int 0, .null, .int 0, .null, .null, .int 0])), (q1, Sum.inl (cA 0, 81, Sum.inl zf))] := hD
  refine nb_putF (v := .ref q1) hx hb ht hown hin hK rfl hP hD hS ffX7_7 rfl rfl (Nat.le_of_ble_eq_true rfl) dX7_init_9 (fun H locs hP hD hS => ?_)
  have hP : va_P D vwCl [(h0, Sum.inr (7, [.int 0, .ref q1, .null, .null, .int 0, .null, .int 0, .int 0, .int 0, .int 0, .int 0, .int 0, .null, .int 0, .null, .null, .int 0])), (q1, Sum.inl (cA 0, 81, Sum.inl zf))] H := hP
  have hD : va_D A [(h0, Sum.inr (7, [.int 0, .ref q1, .null, .null, .int 0, .null, .int 0, .int 0, .int 0, .int 0, .int 0, .int 0, .null, .int 0, .null, .null, .int 0])), (q1, Sum.inl (cA 0, 81, Sum.inl zf))] := hD
  refine lv_aload_n hx hb dX7_init_12 rfl (lv_at hl 0 rfl) ?_
  refine lv_bipush (v := 81) hx hb dX7_init_13 (by decide) ?_
  refine nb_newi (cA := cA) (N := 81) hx hb ht hK hP hD hS hA (by decide) rfl (by decide) (Nat.le_of_ble_eq_true rfl) (Nat.le_of_ble_eq_true rfl) dX7_init_15 (fun q2 H hP hD hS => ?_)
  have hP : va_P D vwCl [(h0, Sum.inr (7, [.int 0, .ref q1, .null, .null, .int 0, .null, .int 0, .int 0, .int 0, .int 0, .int 0, .int 0, .null, .int 0, .null, .null, .int 0])), (q1, Sum.inl (cA 0, 81, Sum.inl zf)), (q2, Sum.inl (cA 0, 81, Sum.inl zf))] H := hP
  have hD : va_D A [(h0, Sum.inr (7, [.int 0, .ref q1, .null, .null, .int 0, .null, .int 0, .int 0, .int 0, .int 0, .int 0, .int 0, .null, .int 0, .null, .null, .int 0])), (q1, Sum.inl (cA 0, 81, Sum.inl zf)), (q2, Sum.inl (cA 0, 81, Sum.inl zf))] := hD
  refine nb_putF (v := .ref q2) hx hb ht hown hin hK rfl hP hD hS ffX7_13 rfl rfl (Nat.le_of_ble_eq_true rfl) dX7_init_17 (fun H locs hP hD hS => ?_)
  have hP : va_P D vwCl [(h0, Sum.inr (7, [.int 0, .ref q1, .ref q2, .null, .int 0, .null, .int 0, .int 0, .int 0, .int 0, .int 0, .int 0, .null, .int 0, .null, .null, .int 0])), (q1, Sum.inl (cA 0, 81, Sum.inl zf)), (q2, Sum.inl (cA 0, 81, Sum.inl zf))] H := hP
  have hD : va_D A [(h0, Sum.inr (7, [.int 0, .ref q1, .ref q2, .null, .int 0, .null, .int 0, .int 0, .int 0, .int 0, .int 0, .int 0, .null, .int 0, .null, .null, .int 0])), (q1, Sum.inl (cA 0, 81, Sum.inl zf)), (q2, Sum.inl (cA 0, 81, Sum.inl zf))] := hD
  refine lv_aload_n hx hb dX7_init_20 rfl (lv_at hl 0 rfl) ?_
  refine lv_sipush (v := 405) hx hb dX7_init_21 (by decide) ?_
  refine nb_newi (cA := cA) (N := 405) hx hb ht hK hP hD hS hA (by decide) rfl (by decide) (Nat.le_of_ble_eq_true rfl) (Nat.le_of_ble_eq_true rfl) dX7_init_24 (fun q3 H hP hD hS => ?_)
  have hP : va_P D vwCl [(h0, Sum.inr (7, [.int 0, .ref q1, .ref q2, .null, .int 0, .null, .int 0, .int 0, .int 0, .int 0, .int 0, .int 0, .null, .int 0, .null, .null, .int 0])), (q1, Sum.inl (cA 0, 81, Sum.inl zf)), (q2, Sum.inl (cA 0, 81, Sum.inl zf)), (q3, Sum.inl (cA 0, 405, Sum.inl zf))] H := hP
  have hD : va_D A [(h0, Sum.inr (7, [.int 0, .ref q1, .ref q2, .null, .int 0, .null, .int 0, .int 0, .int 0, .int 0, .int 0, .int 0, .null, .int 0, .null, .null, .int 0])), (q1, Sum.inl (cA 0, 81, Sum.inl zf)), (q2, Sum.inl (cA 0, 81, Sum.inl zf)), (q3, Sum.inl (cA 0, 405, Sum.inl zf))] := hD
  refine nb_putF (v := .ref q3) hx hb ht hown hin hK rfl hP hD hS ffX7_16 rfl rfl (Nat.le_of_ble_eq_true rfl) dX7_init_26 (fun H locs hP hD hS => ?_)
  have hP : va_P D vwCl [(h0, Sum.inr (7, [.int 0, .ref q1, .ref q2, .ref q3, .int 0, .null, .int 0, .int 0, .int 0, .int 0, .int 0, .int 0, .null, .int 0, .null, .null, .int 0])), (q1, Sum.inl (cA 0, 81, Sum.inl zf)), (q2, Sum.inl (cA 0, 81, Sum.inl zf)), (q3, Sum.inl (cA 0, 405, Sum.inl zf))] H := hP
  have hD : va_D A [(h0, Sum.inr (7, [.int 0, .ref q1, .ref q2, .ref q3, .int 0, .null, .int 0, .int 0, .int 0, .int 0, .int 0, .int 0, .null, .int 0, .null, .null, .int 0])), (q1, Sum.inl (cA 0, 81, Sum.inl zf)), (q2, Sum.inl (cA 0, 81, Sum.inl zf)), (q3, Sum.inl (cA 0, 405, Sum.inl zf))] := hD
  refine lv_aload_n hx hb dX7_init_29 rfl (lv_at hl 0 rfl) ?_
  refine lv_sipush (v := 160) hx hb dX7_init_30 (by decide) ?_
  refine nb_newi (cA := cA) (N := 160) hx hb ht hK hP hD hS hA (by decide) rfl (by decide) (Nat.le_of_ble_eq_true rfl) (Nat.le_of_ble_eq_true rfl) dX7_init_33 (fun q4 H hP hD hS => ?_)
  have hP : va_P D vwCl [(h0, Sum.inr (7, [.int 0, .ref q1, .ref q2, .ref q3, .int 0, .null, .int 0, .int 0, .int 0, .int 0, .int 0, .int 0, .null, .int 0, .null, .null, .int 0])), (q1, Sum.inl (cA 0, 81, Sum.inl zf)), (q2, Sum.inl (cA 0, 81, Sum.inl zf)), (q3, Sum.inl (cA 0, 405, Sum.inl zf)), (q4, Sum.inl (cA 0, 160, Sum.inl zf))] H := hP
  have hD : va_D A [(h0, Sum.inr (7, [.int 0, .ref q1, .ref q2, .ref q3, .int 0, .null, .int 0, .int 0, .int 0, .int 0, .int 0, .int 0, .null, .int 0, .null, .null, .int 0])), (q1, Sum.inl (cA 0, 81, Sum.inl zf)), (q2, Sum.inl (cA 0, 81, Sum.inl zf)), (q3, Sum.inl (cA 0, 405, Sum.inl zf)), (q4, Sum.inl (cA 0, 160, Sum.inl zf))] := hD
  refine nb_putF (v := .ref q4) hx hb ht hown hin hK rfl hP hD hS ffX7_19 rfl rfl (Nat.le_of_ble_eq_true rfl) dX7_init_35 (fun H locs hP hD hS => ?_)
  have hP : va_P D vwCl [(h0, Sum.inr (7, [.int 0, .ref q1, .ref q2, .ref q3, .int 0, .ref q4, .int 0, .int 0, .int 0, .int 0, .int 0, .int 0, .null, .int 0, .null, .null, .int 0])), (q1, Sum.inl (cA 0, 81, Sum.inl zf)), (q2, Sum.inl (cA 0, 81, Sum.inl zf)), (q3, Sum.inl (cA 0, 405, Sum.inl zf)), (q4, Sum.inl (cA 0, 160, Sum.inl zf))] H := hP
  have hD : va_D A [(h0, Sum.inr (7, [.int 0, .ref q1, .ref q2, .ref q3, .int 0, .ref q4, .int 0, .int 0, .int 0, .int 0, .int 0, .int 0, .null, .int 0, .null, .null, .int 0])), (q1, Sum.inl (cA 0, 81, Sum.inl zf)), (q2, Sum.inl (cA 0, 81, Sum.inl zf)), (q3, Sum.inl (cA 0, 405, Sum.inl zf)), (q4, Sum.inl (cA 0, 160, Sum.inl zf))] := hD
  refine lv_aload_n hx hb dX7_init_38 rfl (lv_at hl 0 rfl) ?_
  refine lv_bipush (v := 100) hx hb dX7_init_39 (by decide) ?_
  refine nb_newi (cA := cA) (N := 100) hx hb ht hK hP hD hS hA (by decide) rfl (by decide) (Nat.le_of_ble_eq_true rfl) (Nat.le_of_ble_eq_true rfl) dX7_init_41 (fun q5 H hP hD hS => ?_)
  have hP : va_P D vwCl [(h0, Sum.inr (7, [.int 0, .ref q1, .ref q2, .ref q3, .int 0, .ref q4, .int 0, .int 0, .int 0, .int 0, .int 0, .int 0, .null, .int 0, .null, .null, .int 0])), (q1, Sum.inl (cA 0, 81, Sum.inl zf)), (q2, Sum.inl (cA 0, 81, Sum.inl zf)), (q3, Sum.inl (cA 0, 405, Sum.inl zf)), (q4, Sum.inl (cA 0, 160, Sum.inl zf)), (q5, Sum.inl (cA 0, 100, Sum.inl zf))] H := hP
  have hD : va_D A [(h0, Sum.inr (7, [.int 0, .ref q1, .ref q2, .ref q3, .int 0, .ref q4, .int 0, .int 0, .int 0, .int 0, .int 0, .int 0, .null, .int 0, .null, .null, .int 0])), (q1, Sum.inl (cA 0, 81, Sum.inl zf)), (q2, Sum.inl (cA 0, 81, Sum.inl zf)), (q3, Sum.inl (cA 0, 405, Sum.inl zf)), (q4, Sum.inl (cA 0, 160, Sum.inl zf)), (q5, Sum.inl (cA 0, 100, Sum.inl zf))] := hD
  refine nb_putF (v := .ref q5) hx hb ht hown hin hK rfl hP hD hS ffX7_22 rfl rfl (Nat.le_of_ble_eq_true rfl) dX7_init_43 (fun H locs hP hD hS => ?_)
  have hP : va_P D vwCl [(h0, Sum.inr (7, [.int 0, .ref q1, .ref q2, .ref q3, .int 0, .ref q4, .int 0, .int 0, .int 0, .int 0, .int 0, .int 0, .ref q5, .int 0, .null, .null, .int 0])), (q1, Sum.inl (cA 0, 81, Sum.inl zf)), (q2, Sum.inl (cA 0, 81, Sum.inl zf)), (q3, Sum.inl (cA 0, 405, Sum.inl zf)), (q4, Sum.inl (cA 0, 160, Sum.inl zf)), (q5, Sum.inl (cA 0, 100, Sum.inl zf))] H := hP
  have hD : va_D A [(h0, Sum.inr (7, [.int 0, .ref q1, .ref q2, .ref q3, .int 0, .ref q4, .int 0, .int 0, .int 0, .int 0, .int 0, .int 0, .ref q5, .int 0, .null, .null, .int 0])), (q1, Sum.inl (cA 0, 81, Sum.inl zf)), (q2, Sum.inl (cA 0, 81, Sum.inl zf)), (q3, Sum.inl (cA 0, 405, Sum.inl zf)), (q4, Sum.inl (cA 0, 160, Sum.inl zf)), (q5, Sum.inl (cA 0, 100, Sum.inl zf))] := hD
  refine lv_aload_n hx hb dX7_init_46 rfl (lv_at hl 0 rfl) ?_
  refine lv_bipush (v := 100) hx hb dX7_init_47 (by decide) ?_
  refine nb_newz (cA := cA) (N := 100) hx hb ht hK hP hD hS hA (by decide) rfl (by decide) (Nat.le_of_ble_eq_true rfl) (Nat.le_of_ble_eq_true rfl) dX7_init_49 (fun q6 H hP hD hS => ?_)
  have hP : va_P D vwCl [(h0, Sum.inr (7, [.int 0, .ref q1, .ref q2, .ref q3, .int 0, .ref q4, .int 0, .int 0, .int 0, .int 0, .int 0, .int 0, .ref q5, .int 0, .null, .null, .int 0])), (q1, Sum.inl (cA 0, 81, Sum.inl zf)), (q2, Sum.inl (cA 0, 81, Sum.inl zf)), (q3, Sum.inl (cA 0, 405, Sum.inl zf)), (q4, Sum.inl (cA 0, 160, Sum.inl zf)), (q5, Sum.inl (cA 0, 100, Sum.inl zf)), (q6, Sum.inl (cA 1, 100, Sum.inl zf))] H := hP
  have hD : va_D A [(h0, Sum.inr (7, [.int 0, .ref q1, .ref q2, .ref q3, .int 0, .ref q4, .int 0, .int 0, .int 0, .int 0, .int 0, .int 0, .ref q5, .int 0, .null, .null, .int 0])), (q1, Sum.inl (cA 0, 81, Sum.inl zf)), (q2, Sum.inl (cA 0, 81, Sum.inl zf)), (q3, Sum.inl (cA 0, 405, Sum.inl zf)), (q4, Sum.inl (cA 0, 160, Sum.inl zf)), (q5, Sum.inl (cA 0, 100, Sum.inl zf)), (q6, Sum.inl (cA 1, 100, Sum.inl zf))] := hD
  refine nb_putF (v := .ref q6) hx hb ht hown hin hK rfl hP hD hS ffX7_25 rfl rfl (Nat.le_of_ble_eq_true rfl) dX7_init_51 (fun H locs hP hD hS => ?_)
  have hP : va_P D vwCl [(h0, Sum.inr (7, [.int 0, .ref q1, .ref q2, .ref q3, .int 0, .ref q4, .int 0, .int 0, .int 0, .int 0, .int 0, .int 0, .ref q5, .int 0, .ref q6, .null, .int 0])), (q1, Sum.inl (cA 0, 81, Sum.inl zf)), (q2, Sum.inl (cA 0, 81, Sum.inl zf)), (q3, Sum.inl (cA 0, 405, Sum.inl zf)), (q4, Sum.inl (cA 0, 160, Sum.inl zf)), (q5, Sum.inl (cA 0, 100, Sum.inl zf)), (q6, Sum.inl (cA 1, 100, Sum.inl zf))] H := hP
  have hD : va_D A [(h0, Sum.inr (7, [.int 0, .ref q1, .ref q2, .ref q3, .int 0, .ref q4, .int 0, .int 0, .int 0, .int 0, .int 0, .int 0, .ref q5, .int 0, .ref q6, .null, .int 0])), (q1, Sum.inl (cA 0, 81, Sum.inl zf)), (q2, Sum.inl (cA 0, 81, Sum.inl zf)), (q3, Sum.inl (cA 0, 405, Sum.inl zf)), (q4, Sum.inl (cA 0, 160, Sum.inl zf)), (q5, Sum.inl (cA 0, 100, Sum.inl zf)), (q6, Sum.inl (cA 1, 100, Sum.inl zf))] := hD
  refine lv_aload_n hx hb dX7_init_54 rfl (lv_at hl 0 rfl) ?_
  refine lv_bipush (v := 100) hx hb dX7_init_55 (by decide) ?_
  refine nb_newi (cA := cA) (N := 100) hx hb ht hK hP hD hS hA (by decide) rfl (by decide) (Nat.le_of_ble_eq_true rfl) (Nat.le_of_ble_eq_true rfl) dX7_init_57 (fun q7 H hP hD hS => ?_)
  have hP : va_P D vwCl [(h0, Sum.inr (7, [.int 0, .ref q1, .ref q2, .ref q3, .int 0, .ref q4, .int 0, .int 0, .int 0, .int 0, .int 0, .int 0, .ref q5, .int 0, .ref q6, .null, .int 0])), (q1, Sum.inl (cA 0, 81, Sum.inl zf)), (q2, Sum.inl (cA 0, 81, Sum.inl zf)), (q3, Sum.inl (cA 0, 405, Sum.inl zf)), (q4, Sum.inl (cA 0, 160, Sum.inl zf)), (q5, Sum.inl (cA 0, 100, Sum.inl zf)), (q6, Sum.inl (cA 1, 100, Sum.inl zf)), (q7, Sum.inl (cA 0, 100, Sum.inl zf))] H := hP
  have hD : va_D A [(h0, Sum.inr (7, [.int 0, .ref q1, .ref q2, .ref q3, .int 0, .ref q4, .int 0, .int 0, .int 0, .int 0, .int 0, .int 0, .ref q5, .int 0, .ref q6, .null, .int 0])), (q1, Sum.inl (cA 0, 81, Sum.inl zf)), (q2, Sum.inl (cA 0, 81, Sum.inl zf)), (q3, Sum.inl (cA 0, 405, Sum.inl zf)), (q4, Sum.inl (cA 0, 160, Sum.inl zf)), (q5, Sum.inl (cA 0, 100, Sum.inl zf)), (q6, Sum.inl (cA 1, 100, Sum.inl zf)), (q7, Sum.inl (cA 0, 100, Sum.inl zf))] := hD
  refine nb_putF (v := .ref q7) hx hb ht hown hin hK rfl hP hD hS ffX7_29 rfl rfl (Nat.le_of_ble_eq_true rfl) dX7_init_59 (fun H locs hP hD hS => ?_)
  have hP : va_P D vwCl [(h0, Sum.inr (7, [.int 0, .ref q1, .ref q2, .ref q3, .int 0, .ref q4, .int 0, .int 0, .int 0, .int 0, .int 0, .int 0, .ref q5, .int 0, .ref q6, .ref q7, .int 0])), (q1, Sum.inl (cA 0, 81, Sum.inl zf)), (q2, Sum.inl (cA 0, 81, Sum.inl zf)), (q3, Sum.inl (cA 0, 405, Sum.inl zf)), (q4, Sum.inl (cA 0, 160, Sum.inl zf)), (q5, Sum.inl (cA 0, 100, Sum.inl zf)), (q6, Sum.inl (cA 1, 100, Sum.inl zf)), (q7, Sum.inl (cA 0, 100, Sum.inl zf))] H := hP
  have hD : va_D A [(h0, Sum.inr (7, [.int 0, .ref q1, .ref q2, .ref q3, .int 0, .ref q4, .int 0, .int 0, .int 0, .int 0, .int 0, .int 0, .ref q5, .int 0, .ref q6, .ref q7, .int 0])), (q1, Sum.inl (cA 0, 81, Sum.inl zf)), (q2, Sum.inl (cA 0, 81, Sum.inl zf)), (q3, Sum.inl (cA 0, 405, Sum.inl zf)), (q4, Sum.inl (cA 0, 160, Sum.inl zf)), (q5, Sum.inl (cA 0, 100, Sum.inl zf)), (q6, Sum.inl (cA 1, 100, Sum.inl zf)), (q7, Sum.inl (cA 0, 100, Sum.inl zf))] := hD
  refine W.widen (k := 7) (n := 1027) (Nat.le_of_ble_eq_true rfl) (Nat.le_of_ble_eq_true rfl) ?_
  exact W.vret hx hb hr (fun t ht hW => ⟨⟨fun i => [h0, q1, q2, q3, q4, q5, q6, q7].getD i 0, rfl, rfl, by rw [ht]; exact hP, hD⟩, hS.F ht⟩) hS.2.2 dX7_init_62
/-- the saved states' places -/
def hsF (u : Nat → Nat → Nat) (n : Nat) : Nat → Option Nat := fun j => if j < n then some (u (j + 1) 0) else none
theorem hsF_up (u : Nat → Nat → Nat) (n : Nat) : va_up (hsF u n) n (some (u (n + 1) 0)) = hsF u (n + 1) := by
  funext j
  unfold va_up hsF
  by_cases h : j = n
  · subst h
    simp
  · by_cases h2 : j < n
    · simp [h, h2, Nat.lt_succ_of_lt h2]
    · have h3 : ¬ j < n + 1 := by omega
      simp [h, h2, h3]
/-- the blocks of the first n saved states -/
def hsB (cA : Nat → ClassId) (u : Nat → Nat → Nat) : Nat → va_W
  | 0 => []
  | n + 1 => hsB cA u n ++ wSta cA (u (n + 1))
def wHis (cA : Nat → ClassId) (u : Nat → Nat → Nat) : va_W := (u 0 0, Sum.inr (2, [.ref (u 0 1), .int 0, .int 0])) :: (u 0 1, Sum.inl (cA 2, 5, Sum.inr (Sum.inr (Sum.inr (Sum.inr (hsF u 5)))))) :: hsB cA u 5
theorem hsF_ext {u v : Nat → Nat → Nat} {n : Nat} (h : ∀ i, 1 ≤ i → i ≤ n → v i = u i) : hsF v n = hsF u n := by
  funext j
  unfold hsF
  split
  · rw [h (j + 1) (by omega) (by omega)]
  · rfl
theorem hsB_ext {cA : Nat → ClassId} {u v : Nat → Nat → Nat} : ∀ n, (∀ i, 1 ≤ i → i ≤ n → v i = u i) → hsB cA v n = hsB cA u n
  | 0, _ => rfl
  | n + 1, h => by rw [hsB, hsB, hsB_ext n (fun i a b => h i a (by omega)), h (n + 1) (by omega) (Nat.le_refl _)]
theorem nwX2_9' : NwOk RX2 9 4 fsX4 12 := nwX2_9
set_option maxHeartbeats 4000000 in
set_option maxRecDepth 100000 in
theorem his_loop {p : Program} {l : Launch} {e : Env} {s : State} {m : MethodId} {args : Array Value} {below : List Frame} {meth : Method} {c : Code} {Q : State → Prop} {D : va_G} {cA : Nat → ClassId} {A : Nat → Prop} {h0 q1 : Nat} (hx : p.tables.exec = Jvm.exec) (hb : c.code = cX2_init) (hml : c.maxLocals = 2) (hown : s.vm.findClass RX2 = some m.cls) (ht : ∀ w ∈ GW, w.before args s = true) (hK : KcT D cA s) (hA : ∀ q, s.heap.size ≤ q → A q)
    (kk : ∀ (u : Nat → Nat → Nat) (H : Heap) (locs : List Loc) (ls : Array Slot), va_P D vwCl ((h0, Sum.inr (2, [.ref q1, .int 0, .int 0])) :: (q1, Sum.inl (cA 2, 5, Sum.inr (Sum.inr (Sum.inr (Sum.inr (hsF u 5)))))) :: hsB cA u 5) H → va_D A ((h0, Sum.inr (2, [.ref q1, .int 0, .int 0])) :: (q1, Sum.inl (cA 2, 5, Sum.inr (Sum.inr (Sum.inr (Sum.inr (hsF u 5)))))) :: hsB cA u 5) → va_S A s.heap H locs → W p l e (rmC 2 51 455) s m args below meth c H locs 51 455 Q (F0 m 48 ls [])) :
    ∀ (n k : Nat), k + n = 5 → ∀ (u : Nat → Nat → Nat) (H : Heap) (locs : List Loc) (ls : Array Slot), va_P D vwCl ((h0, Sum.inr (2, [.ref q1, .int 0, .int 0])) :: (q1, Sum.inl (cA 2, 5, Sum.inr (Sum.inr (Sum.inr (Sum.inr (hsF u k)))))) :: hsB cA u k) H → va_D A ((h0, Sum.inr (2, [.ref q1, .int 0, .int 0])) :: (q1, Sum.inl (cA 2, 5, Sum.inr (Sum.inr (Sum.inr (Sum.inr (hsF u k)))))) :: hsB cA u k) → va_S A s.heap H locs → lv_has ls 2 [(0, .ref h0), (1, .int (nI k))] → W p l e (rmC 2 51 455) s m args below meth c H locs (1 + 10 * k) (5 + 90 * k) Q (F0 m 24 ls []) := by
  intro n
  induction n with
  | zero =>
    intro k hk u H locs ls hP hD hS hl
    have ek : k = 5 := by omega
    subst ek
    refine lv_iload_n hx hb dX2_init_24 rfl (lv_at hl 1 rfl) ?_
    refine lv_iconst (v := 5) hx hb dX2_init_25 (by decide) ?_
    refine lv_icmp_ge (tgt := 48) hx hb dX2_init_26 (by decide) (fun _ => ?_) (fun z => absurd (nI_le (Nat.le_refl 5) (by decide)) z)
    exact kk u H locs ls hP hD hS
  | succ n ih =>
    intro k hk u H locs ls hP hD hS hl
    refine lv_iload_n hx hb dX2_init_24 rfl (lv_at hl 1 rfl) ?_
    refine lv_iconst (v := 5) hx hb dX2_init_25 (by decide) ?_
    refine lv_icmp_ge (tgt := 48) hx hb dX2_init_26 (by decide) (fun z => absurd z (nI_ge (b := 5) (by omega) (by decide))) (fun _ => ?_)
    refine lv_aload_n hx hb dX2_init_29 rfl (lv_at hl 0 rfl) ?_
    obtain ⟨C, T, N, f1, f2, f3, f4⟩ := fkX2_11
    refine va_get (v := .ref q1) hx hb ht f3 hown hK.1 hP 0 rfl f1 0 f2 (ht _ f4) (fun _ h => h) rfl dX2_init_30 ?_
    refine lv_iload_n hx hb dX2_init_33 rfl (lv_at hl 1 rfl) ?_
    refine nb_mkN hx hb hml hl.1 hown ht hK hP hD hS hA nwX2_9 mk_X4 ikX4 nkX2_24 ⟨(Nat.le_of_ble_eq_true rfl), (Nat.le_of_ble_eq_true rfl)⟩ ⟨by show 1 + 10 * k + 1 + 9 ≤ 51; omega, by show 5 + 90 * k + 12 + 78 ≤ 455; omega⟩ (Nat.le_of_ble_eq_true rfl) dX2_init_34 dX2_init_37 dX2_init_38 (fun v H locs hP hD hS => ?_)
    have hq : ((h0, Sum.inr (2, [.ref q1, .int 0, .int 0])) :: (q1, Sum.inl (cA 2, 5, Sum.inr (Sum.inr (Sum.inr (Sum.inr (hsF u k)))))) :: hsB cA u k ++ wSta cA v : va_W)[(hsB cA u k).length + 2]? = some (v 0, Sum.inr (4, [.int 0, .ref (v 1), .ref (v 2), .ref (v 3), .ref (v 4), .int 0, .ref (v 5), .ref (v 6), .int 0, .ref (v 7), .ref (v 8), .ref (v 9)])) := by
      show (hsB cA u k ++ wSta cA v)[(hsB cA u k).length]? = _
      rw [List.getElem?_append_right (Nat.le_refl _), Nat.sub_self]
      rfl
    refine va_astq hx hb hK.1 hP hD hS 1 2 ((hsB cA u k).length + 2) 4 rfl rfl hq rfl (by rw [show (nI k) = nI k from rfl]; exact vp_nI (by omega) (by decide)) dX2_init_41 (fun H locs hP hD hS => ?_)
    have ei : (nI k).toNatClampNeg = k := ix_nI (by omega)
    rw [ei] at hP hD
    have eu : ∀ i, 1 ≤ i → i ≤ k → (fun i => if i = k + 1 then v else u i) i = u i := fun i a b => if_neg (by omega)
    have ev : (fun i => if i = k + 1 then v else u i) (k + 1) = v := if_pos rfl
    have eF : va_up (hsF u k) k (some (v 0)) = hsF (fun i => if i = k + 1 then v else u i) (k + 1) := by
      rw [← hsF_up, hsF_ext eu, if_pos rfl]
    have eB : hsB cA u k ++ wSta cA v = hsB cA (fun i => if i = k + 1 then v else u i) (k + 1) := by
      rw [hsB, hsB_ext k eu, if_pos rfl]
    have hP : va_P D vwCl ((h0, Sum.inr (2, [.ref q1, .int 0, .int 0])) :: (q1, Sum.inl (cA 2, 5, Sum.inr (Sum.inr (Sum.inr (Sum.inr (va_up (hsF u k) k (some (v 0)))))))) :: (hsB cA u k ++ wSta cA v)) H := hP
    have hD : va_D A ((h0, Sum.inr (2, [.ref q1, .int 0, .int 0])) :: (q1, Sum.inl (cA 2, 5, Sum.inr (Sum.inr (Sum.inr (Sum.inr (va_up (hsF u k) k (some (v 0)))))))) :: (hsB cA u k ++ wSta cA v)) := hD
    rw [eF, eB] at hP hD
    refine lv_iinc (v := nI (k + 1)) (lv' := [(1, .int (nI (k + 1))), (0, .ref h0)]) hx hb dX2_init_42 hl (k := 1) rfl (nI_1 k) (by decide) rfl (fun ls hl => ?_)
    refine lv_goto (tgt := 24) hx hb dX2_init_45 (by decide) ?_
    refine W.widen (k := 1 + 10 * (k + 1)) (n := 5 + 90 * (k + 1)) (by omega) (by omega) ?_
    exact ih (k + 1) (by omega) _ H locs ls hP hD hS (lv_sub hl [1, 0] rfl)
set_option maxHeartbeats 4000000 in
set_option maxRecDepth 100000 in
theorem mk_X2 {l : Launch} {D : va_G} {cA : Nat → ClassId} : Mk (S := Nat → Nat → Nat) l D cA yX2_init iX2_init 2 51 455 2 fsX2 (fun u => u 0 0) (wHis cA) := by
  intro h0 sz
  refine Met.ofW (cc := cX2_init) (maxL := 2) (ret := none) (by decide) rfl ?_
  intro p e s m args below meth c s₁ B hml hv
  obtain ⟨rfl, hsz, hP, hK⟩ := hv
  have hx := B.exec
  have hb := B.bytes
  have hr := B.returns
  have ht0 := atoms_spec (ws := wsG yX2_init iX2_init) B.pre
  have ht : ∀ w ∈ GW, w.before [Value.ref h0].toArray s = true := fun w hw => ht0 w (List.mem_cons_of_mem _ hw)
  have hown : s.vm.findClass RX2 = some m.cls := findClass_of_methodNamed B.named
  have hlocks := B.notSynchronized
  have hin : meth.name = "<init>" := (name_of_methodNamed B.named B.method).1
  subst hsz
  have hD := (nb_D1 (x := (h0, Sum.inr (2, fsX2)))).self (sz := s.heap.size)
  generalize hAe : va_A [(h0, Sum.inr (2, fsX2))] s.heap.size = A at hD ⊢
  have hA : ∀ q : Nat, s.heap.size ≤ q → A q := fun q h => by rw [← hAe]; exact Or.inr h
  have hS : va_S A s.heap s.heap [] := va_S.rf
  have hl := lv_entry ([.ref h0]) (n := 2) (Nat.le_of_ble_eq_true rfl)
  rw [lg_entry_eq]
  generalize (lg_sl ([.ref h0]) ++ List.replicate (2 - (lg_sl ([.ref h0])).length) Slot.unset).toArray = ls at hl ⊢
  have hl : lv_has ls 2 [(0, .ref h0)] := hl
  have hP : va_P D vwCl [(h0, Sum.inr (2, [.null, .int 0, .int 0]))] s.heap := hP
  have hD : va_D A [(h0, Sum.inr (2, [.null, .int 0, .int 0]))] := hD
  refine lv_aload_n hx hb dX2_init_0 rfl (lv_at hl 0 rfl) ?_
  refine W.objInit hx hb hown (ht _ oiX2) (ht _ gw_oiM) (ht _ gw_oiC) rfl (by rw [hml]; exact hl.1) rfl dX2_init_1 (Nat.le_of_ble_eq_true rfl) (Nat.le_of_ble_eq_true rfl) ?_
  refine W.eq (g2 := F0 m 4 ls []) rfl ?_
  refine lv_aload_n hx hb dX2_init_4 rfl (lv_at hl 0 rfl) ?_
  refine lv_iconst (v := 5) hx hb dX2_init_5 (by decide) ?_
  refine nb_newq (cA := cA) (N := 5) hx hb hown (ht _ (gw_of 178 (by decide +kernel) (by decide +kernel))) hK hP hD hS hA (by decide) rfl (by decide) (Nat.le_of_ble_eq_true rfl) (Nat.le_of_ble_eq_true rfl) dX2_init_6 (fun q1 H hP hD hS => ?_)
  have hP : va_P D vwCl [(h0, Sum.inr (2, [.null, .int 0, .int 0])), (q1, Sum.inl (cA 2, 5, Sum.inr (Sum.inr (Sum.inr (Sum.inr (fun _ => none))))))] H := hP
  have hD : va_D A [(h0, Sum.inr (2, [.null, .int 0, .int 0])), (q1, Sum.inl (cA 2, 5, Sum.inr (Sum.inr (Sum.inr (Sum.inr (fun _ => none))))))] := hD
  refine nb_putF (v := .ref q1) hx hb ht hown hin hK rfl hP hD hS ffX2_11 rfl rfl (Nat.le_of_ble_eq_true rfl) dX2_init_9 (fun H locs hP hD hS => ?_)
  have hP : va_P D vwCl [(h0, Sum.inr (2, [.ref q1, .int 0, .int 0])), (q1, Sum.inl (cA 2, 5, Sum.inr (Sum.inr (Sum.inr (Sum.inr (fun _ => none))))))] H := hP
  have hD : va_D A [(h0, Sum.inr (2, [.ref q1, .int 0, .int 0])), (q1, Sum.inl (cA 2, 5, Sum.inr (Sum.inr (Sum.inr (Sum.inr (fun _ => none))))))] := hD
  refine lv_aload_n hx hb dX2_init_12 rfl (lv_at hl 0 rfl) ?_
  refine lv_iconst (v := 0) hx hb dX2_init_13 (by decide) ?_
  refine nb_put (v := .int 0) hx hb ht hown hK rfl hP hD hS fpX2_17 rfl rfl (Nat.le_of_ble_eq_true rfl) dX2_init_14 (fun H locs hP hD hS => ?_)
  refine lv_aload_n hx hb dX2_init_17 rfl (lv_at hl 0 rfl) ?_
  refine lv_iconst (v := 0) hx hb dX2_init_18 (by decide) ?_
  refine nb_put (v := .int 0) hx hb ht hown hK rfl hP hD hS fpX2_21 rfl rfl (Nat.le_of_ble_eq_true rfl) dX2_init_19 (fun H locs hP hD hS => ?_)
  have e0 : (fun _ => none : Nat → Option Nat) = hsF (fun _ _ => 0) 0 := by
    funext j
    unfold hsF
    rw [if_neg (Nat.not_lt_zero _)]
  have hP : va_P D vwCl ((h0, Sum.inr (2, [.ref q1, .int 0, .int 0])) :: (q1, Sum.inl (cA 2, 5, Sum.inr (Sum.inr (Sum.inr (Sum.inr (fun _ => none)))))) :: hsB cA (fun _ _ => 0) 0) H := hP
  have hD : va_D A ((h0, Sum.inr (2, [.ref q1, .int 0, .int 0])) :: (q1, Sum.inl (cA 2, 5, Sum.inr (Sum.inr (Sum.inr (Sum.inr (fun _ => none)))))) :: hsB cA (fun _ _ => 0) 0) := hD
  rw [e0] at hP hD
  refine lv_iconst (v := 0) hx hb dX2_init_22 (by decide) ?_
  refine lv_istore_n (lv' := [(1, .int 0), (0, .ref h0)]) hx hb dX2_init_23 rfl hl (by decide) rfl (fun ls hl => ?_)
  refine W.widen (k := 1 + 10 * 0) (n := 5 + 90 * 0) (Nat.le_of_ble_eq_true rfl) (Nat.le_of_ble_eq_true rfl) ?_
  refine his_loop hx hb hml hown ht hK hA (fun u H locs ls hP hD hS => ?_) 5 0 rfl _ H locs ls hP hD hS (lv_sub hl [1, 0] rfl)
  refine W.vret hx hb hr (fun t ht hW => ⟨⟨fun i => if i = 0 then (fun j => if j = 0 then h0 else q1) else u i, rfl, rfl, ?_, ?_⟩, hS.F ht⟩) hS.2.2 dX2_init_48
  · rw [ht]
    have eu : ∀ i, 1 ≤ i → i ≤ 5 → (fun i => if i = 0 then (fun j => if j = 0 then h0 else q1) else u i) i = u i := fun i a b => if_neg (by omega)
    unfold wHis
    rw [hsF_ext eu, hsB_ext 5 eu]
    exact hP
  · have eu : ∀ i, 1 ≤ i → i ≤ 5 → (fun i => if i = 0 then (fun j => if j = 0 then h0 else q1) else u i) i = u i := fun i a b => if_neg (by omega)
    unfold wHis
    rw [hsF_ext eu, hsB_ext 5 eu]
    exact hD
def wAn (cA : Nat → ClassId) (u : (Nat → Nat → Nat) × (Nat → Nat → Nat)) : va_W := (((u.1 0 0, Sum.inr (6, [.ref ((u.1 1) 0), .ref ((u.1 2) 0), .ref ((u.1 3) 0), .ref (u.2 0 0), .ref ((u.1 5) 0), .ref ((u.1 6) 0), .ref ((u.1 7) 0), .ref ((u.1 8) 0), .int 0])) :: ((((((((([] : va_W) ++ wTex cA (u.1 1)) ++ wSta cA (u.1 2)) ++ wSta cA (u.1 3)) ++ wHis cA u.2) ++ wRol cA (u.1 5)) ++ wAna cA (u.1 6)) ++ wClo cA (u.1 7)) ++ wClo cA (u.1 8))) : va_W)
set_option maxHeartbeats 4000000 in
set_option maxRecDepth 100000 in
theorem mk_X6 {l : Launch} {D : va_G} {cA : Nat → ClassId} : Mk (S := (Nat → Nat → Nat) × (Nat → Nat → Nat)) l D cA yX6_init iX6_init 3 95 1624 6 fsX6 (fun u => u.1 0 0) (wAn cA) := by
  intro h0 sz
  refine Met.ofW (cc := cX6_init) (maxL := 1) (ret := none) (by decide) rfl ?_
  intro p e s m args below meth c s₁ B hml hv
  obtain ⟨rfl, hsz, hP, hK⟩ := hv
  have hx := B.exec
  have hb := B.bytes
  have hr := B.returns
  have ht0 := atoms_spec (ws := wsG yX6_init iX6_init) B.pre
  have ht : ∀ w ∈ GW, w.before [Value.ref h0].toArray s = true := fun w hw => ht0 w (List.mem_cons_of_mem _ hw)
  have hown : s.vm.findClass RX6 = some m.cls := findClass_of_methodNamed B.named
  have hlocks := B.notSynchronized
  have hin : meth.name = "<init>" := (name_of_methodNamed B.named B.method).1
  subst hsz
  have hD := (nb_D1 (x := (h0, Sum.inr (6, fsX6)))).self (sz := s.heap.size)
  generalize hAe : va_A [(h0, Sum.inr (6, fsX6))] s.heap.size = A at hD ⊢
  have hA : ∀ q : Nat, s.heap.size ≤ q → A q := fun q h => by rw [← hAe]; exact Or.inr h
  have hS : va_S A s.heap s.heap [] := va_S.rf
  have hl := lv_entry ([.ref h0]) (n := 1) (Nat.le_of_ble_eq_true rfl)
  rw [lg_entry_eq]
  generalize (lg_sl ([.ref h0]) ++ List.replicate (1 - (lg_sl ([.ref h0])).length) Slot.unset).toArray = ls at hl ⊢
  have hl : lv_has ls 1 [(0, .ref h0)] := hl
  have hP : va_P D vwCl [(h0, Sum.inr (6, [.null, .null, .null, .null, .null, .null, .null, .null, .int 0]))] s.heap := hP
  have hD : va_D A [(h0, Sum.inr (6, [.null, .null, .null, .null, .null, .null, .null, .null, .int 0]))] := hD
  refine lv_aload_n hx hb dX6_init_0 rfl (lv_at hl 0 rfl) ?_
  refine W.objInit hx hb hown (ht _ oiX6) (ht _ gw_oiM) (ht _ gw_oiC) rfl (by rw [hml]; exact hl.1) rfl dX6_init_1 (Nat.le_of_ble_eq_true rfl) (Nat.le_of_ble_eq_true rfl) ?_
  refine W.eq (g2 := F0 m 4 ls []) rfl ?_
  refine lv_aload_n hx hb dX6_init_4 rfl (lv_at hl 0 rfl) ?_
  refine nb_mkN hx hb hml hl.1 hown ht hK hP hD hS hA nwX6_9 mk_X5 ikX5 nkX6_11 ⟨(Nat.le_of_ble_eq_true rfl), (Nat.le_of_ble_eq_true rfl)⟩ ⟨(Nat.le_of_ble_eq_true rfl), (Nat.le_of_ble_eq_true rfl)⟩ (Nat.le_of_ble_eq_true rfl) dX6_init_5 dX6_init_8 dX6_init_9 (fun vT H locs hP hD hS => ?_)
  have hP : va_P D vwCl (((h0, Sum.inr (6, [.null, .null, .null, .null, .null, .null, .null, .null, .int 0])) :: (([] : va_W) ++ wTex cA vT)) : va_W) H := hP
  have hD : va_D A (((h0, Sum.inr (6, [.null, .null, .null, .null, .null, .null, .null, .null, .int 0])) :: (([] : va_W) ++ wTex cA vT)) : va_W) := hD
  refine nb_putF (v := .ref (vT 0)) hx hb ht hown hin hK rfl hP hD hS ffX6_12 rfl rfl (Nat.le_of_ble_eq_true rfl) dX6_init_12 (fun H locs hP hD hS => ?_)
  have hP : va_P D vwCl (((h0, Sum.inr (6, [.ref (vT 0), .null, .null, .null, .null, .null, .null, .null, .int 0])) :: (([] : va_W) ++ wTex cA vT)) : va_W) H := hP
  have hD : va_D A (((h0, Sum.inr (6, [.ref (vT 0), .null, .null, .null, .null, .null, .null, .null, .int 0])) :: (([] : va_W) ++ wTex cA vT)) : va_W) := hD
  refine lv_aload_n hx hb dX6_init_15 rfl (lv_at hl 0 rfl) ?_
  refine nb_mkN hx hb hml hl.1 hown ht hK hP hD hS hA nwX6_16 mk_X4 ikX4 nkX6_18 ⟨(Nat.le_of_ble_eq_true rfl), (Nat.le_of_ble_eq_true rfl)⟩ ⟨(Nat.le_of_ble_eq_true rfl), (Nat.le_of_ble_eq_true rfl)⟩ (Nat.le_of_ble_eq_true rfl) dX6_init_16 dX6_init_19 dX6_init_20 (fun vS H locs hP hD hS => ?_)
  have hP : va_P D vwCl (((h0, Sum.inr (6, [.ref (vT 0), .null, .null, .null, .null, .null, .null, .null, .int 0])) :: ((([] : va_W) ++ wTex cA vT) ++ wSta cA vS)) : va_W) H := hP
  have hD : va_D A (((h0, Sum.inr (6, [.ref (vT 0), .null, .null, .null, .null, .null, .null, .null, .int 0])) :: ((([] : va_W) ++ wTex cA vT) ++ wSta cA vS)) : va_W) := hD
  refine nb_putF (v := .ref (vS 0)) hx hb ht hown hin hK rfl hP hD hS ffX6_19 rfl rfl (Nat.le_of_ble_eq_true rfl) dX6_init_23 (fun H locs hP hD hS => ?_)
  have hP : va_P D vwCl (((h0, Sum.inr (6, [.ref (vT 0), .ref (vS 0), .null, .null, .null, .null, .null, .null, .int 0])) :: ((([] : va_W) ++ wTex cA vT) ++ wSta cA vS)) : va_W) H := hP
  have hD : va_D A (((h0, Sum.inr (6, [.ref (vT 0), .ref (vS 0), .null, .null, .null, .null, .null, .null, .int 0])) :: ((([] : va_W) ++ wTex cA vT) ++ wSta cA vS)) : va_W) := hD
  refine lv_aload_n hx hb dX6_init_26 rfl (lv_at hl 0 rfl) ?_
  refine nb_mkN hx hb hml hl.1 hown ht hK hP hD hS hA nwX6_16 mk_X4 ikX4 nkX6_18 ⟨(Nat.le_of_ble_eq_true rfl), (Nat.le_of_ble_eq_true rfl)⟩ ⟨(Nat.le_of_ble_eq_true rfl), (Nat.le_of_ble_eq_true rfl)⟩ (Nat.le_of_ble_eq_true rfl) dX6_init_27 dX6_init_30 dX6_init_31 (fun vE H locs hP hD hS => ?_)
  have hP : va_P D vwCl (((h0, Sum.inr (6, [.ref (vT 0), .ref (vS 0), .null, .null, .null, .null, .null, .null, .int 0])) :: (((([] : va_W) ++ wTex cA vT) ++ wSta cA vS) ++ wSta cA vE)) : va_W) H := hP
  have hD : va_D A (((h0, Sum.inr (6, [.ref (vT 0), .ref (vS 0), .null, .null, .null, .null, .null, .null, .int 0])) :: (((([] : va_W) ++ wTex cA vT) ++ wSta cA vS) ++ wSta cA vE)) : va_W) := hD
  refine nb_putF (v := .ref (vE 0)) hx hb ht hown hin hK rfl hP hD hS ffX6_23 rfl rfl (Nat.le_of_ble_eq_true rfl) dX6_init_34 (fun H locs hP hD hS => ?_)
  have hP : va_P D vwCl (((h0, Sum.inr (6, [.ref (vT 0), .ref (vS 0), .ref (vE 0), .null, .null, .null, .null, .null, .int 0])) :: (((([] : va_W) ++ wTex cA vT) ++ wSta cA vS) ++ wSta cA vE)) : va_W) H := hP
  have hD : va_D A (((h0, Sum.inr (6, [.ref (vT 0), .ref (vS 0), .ref (vE 0), .null, .null, .null, .null, .null, .int 0])) :: (((([] : va_W) ++ wTex cA vT) ++ wSta cA vS) ++ wSta cA vE)) : va_W) := hD
  refine lv_aload_n hx hb dX6_init_37 rfl (lv_at hl 0 rfl) ?_
  refine nb_mkP hx hb hml hl.1 hown ht hK hP hD hS hA nwX6_26 mk_X2 ikX2 lkX6_28 ⟨(Nat.le_of_ble_eq_true rfl), (Nat.le_of_ble_eq_true rfl)⟩ ⟨(Nat.le_of_ble_eq_true rfl), (Nat.le_of_ble_eq_true rfl)⟩ (Nat.le_of_ble_eq_true rfl) dX6_init_38 dX6_init_41 dX6_init_42 (fun vH H locs hP hD hS => ?_)
  have hP : va_P D vwCl (((h0, Sum.inr (6, [.ref (vT 0), .ref (vS 0), .ref (vE 0), .null, .null, .null, .null, .null, .int 0])) :: ((((([] : va_W) ++ wTex cA vT) ++ wSta cA vS) ++ wSta cA vE) ++ wHis cA vH)) : va_W) H := hP
  have hD : va_D A (((h0, Sum.inr (6, [.ref (vT 0), .ref (vS 0), .ref (vE 0), .null, .null, .null, .null, .null, .int 0])) :: ((((([] : va_W) ++ wTex cA vT) ++ wSta cA vS) ++ wSta cA vE) ++ wHis cA vH)) : va_W) := hD
  refine nb_putF (v := .ref (vH 0 0)) hx hb ht hown hin hK rfl hP hD hS ffX6_29 rfl rfl (Nat.le_of_ble_eq_true rfl) dX6_init_45 (fun H locs hP hD hS => ?_)
  have hP : va_P D vwCl (((h0, Sum.inr (6, [.ref (vT 0), .ref (vS 0), .ref (vE 0), .ref (vH 0 0), .null, .null, .null, .null, .int 0])) :: ((((([] : va_W) ++ wTex cA vT) ++ wSta cA vS) ++ wSta cA vE) ++ wHis cA vH)) : va_W) H := hP
  have hD : va_D A (((h0, Sum.inr (6, [.ref (vT 0), .ref (vS 0), .ref (vE 0), .ref (vH 0 0), .null, .null, .null, .null, .int 0])) :: ((((([] : va_W) ++ wTex cA vT) ++ wSta cA vS) ++ wSta cA vE) ++ wHis cA vH)) : va_W) := hD
  refine lv_aload_n hx hb dX6_init_48 rfl (lv_at hl 0 rfl) ?_
  refine nb_mkN hx hb hml hl.1 hown ht hK hP hD hS hA nwX6_33 mk_X3 ikX3 nkX6_35 ⟨(Nat.le_of_ble_eq_true rfl), (Nat.le_of_ble_eq_true rfl)⟩ ⟨(Nat.le_of_ble_eq_true rfl), (Nat.le_of_ble_eq_true rfl)⟩ (Nat.le_of_ble_eq_true rfl) dX6_init_49 dX6_init_52 dX6_init_53 (fun vR H locs hP hD hS => ?_)
  have hP : va_P D vwCl (((h0, Sum.inr (6, [.ref (vT 0), .ref (vS 0), .ref (vE 0), .ref (vH 0 0), .null, .null, .null, .null, .int 0])) :: (((((([] : va_W) ++ wTex cA vT) ++ wSta cA vS) ++ wSta cA vE) ++ wHis cA vH) ++ wRol cA vR)) : va_W) H := hP
  have hD : va_D A (((h0, Sum.inr (6, [.ref (vT 0), .ref (vS 0), .ref (vE 0), .ref (vH 0 0), .null, .null, .null, .null, .int 0])) :: (((((([] : va_W) ++ wTex cA vT) ++ wSta cA vS) ++ wSta cA vE) ++ wHis cA vH) ++ wRol cA vR)) : va_W) := hD
  refine nb_putF (v := .ref (vR 0)) hx hb ht hown hin hK rfl hP hD hS ffX6_36 rfl rfl (Nat.le_of_ble_eq_true rfl) dX6_init_56 (fun H locs hP hD hS => ?_)
  have hP : va_P D vwCl (((h0, Sum.inr (6, [.ref (vT 0), .ref (vS 0), .ref (vE 0), .ref (vH 0 0), .ref (vR 0), .null, .null, .null, .int 0])) :: (((((([] : va_W) ++ wTex cA vT) ++ wSta cA vS) ++ wSta cA vE) ++ wHis cA vH) ++ wRol cA vR)) : va_W) H := hP
  have hD : va_D A (((h0, Sum.inr (6, [.ref (vT 0), .ref (vS 0), .ref (vE 0), .ref (vH 0 0), .ref (vR 0), .null, .null, .null, .int 0])) :: (((((([] : va_W) ++ wTex cA vT) ++ wSta cA vS) ++ wSta cA vE) ++ wHis cA vH) ++ wRol cA vR)) : va_W) := hD
  refine lv_aload_n hx hb dX6_init_59 rfl (lv_at hl 0 rfl) ?_
  refine nb_mkN hx hb hml hl.1 hown ht hK hP hD hS hA nwX6_40 mk_X0 ikX0 nkX6_42 ⟨(Nat.le_of_ble_eq_true rfl), (Nat.le_of_ble_eq_true rfl)⟩ ⟨(Nat.le_of_ble_eq_true rfl), (Nat.le_of_ble_eq_true rfl)⟩ (Nat.le_of_ble_eq_true rfl) dX6_init_60 dX6_init_63 dX6_init_64 (fun vA H locs hP hD hS => ?_)
  have hP : va_P D vwCl (((h0, Sum.inr (6, [.ref (vT 0), .ref (vS 0), .ref (vE 0), .ref (vH 0 0), .ref (vR 0), .null, .null, .null, .int 0])) :: ((((((([] : va_W) ++ wTex cA vT) ++ wSta cA vS) ++ wSta cA vE) ++ wHis cA vH) ++ wRol cA vR) ++ wAna cA vA)) : va_W) H := hP
  have hD : va_D A (((h0, Sum.inr (6, [.ref (vT 0), .ref (vS 0), .ref (vE 0), .ref (vH 0 0), .ref (vR 0), .null, .null, .null, .int 0])) :: ((((((([] : va_W) ++ wTex cA vT) ++ wSta cA vS) ++ wSta cA vE) ++ wHis cA vH) ++ wRol cA vR) ++ wAna cA vA)) : va_W) := hD
  refine nb_putF (v := .ref (vA 0)) hx hb ht hown hin hK rfl hP hD hS ffX6_43 rfl rfl (Nat.le_of_ble_eq_true rfl) dX6_init_67 (fun H locs hP hD hS => ?_)
  have hP : va_P D vwCl (((h0, Sum.inr (6, [.ref (vT 0), .ref (vS 0), .ref (vE 0), .ref (vH 0 0), .ref (vR 0), .ref (vA 0), .null, .null, .int 0])) :: ((((((([] : va_W) ++ wTex cA vT) ++ wSta cA vS) ++ wSta cA vE) ++ wHis cA vH) ++ wRol cA vR) ++ wAna cA vA)) : va_W) H := hP
  have hD : va_D A (((h0, Sum.inr (6, [.ref (vT 0), .ref (vS 0), .ref (vE 0), .ref (vH 0 0), .ref (vR 0), .ref (vA 0), .null, .null, .int 0])) :: ((((((([] : va_W) ++ wTex cA vT) ++ wSta cA vS) ++ wSta cA vE) ++ wHis cA vH) ++ wRol cA vR) ++ wAna cA vA)) : va_W) := hD
  refine lv_aload_n hx hb dX6_init_70 rfl (lv_at hl 0 rfl) ?_
  refine nb_mkN hx hb hml hl.1 hown ht hK hP hD hS hA nwX6_47 mk_X1 ikX1 nkX6_49 ⟨(Nat.le_of_ble_eq_true rfl), (Nat.le_of_ble_eq_true rfl)⟩ ⟨(Nat.le_of_ble_eq_true rfl), (Nat.le_of_ble_eq_true rfl)⟩ (Nat.le_of_ble_eq_true rfl) dX6_init_71 dX6_init_74 dX6_init_75 (fun vC H locs hP hD hS => ?_)
  have hP : va_P D vwCl (((h0, Sum.inr (6, [.ref (vT 0), .ref (vS 0), .ref (vE 0), .ref (vH 0 0), .ref (vR 0), .ref (vA 0), .null, .null, .int 0])) :: (((((((([] : va_W) ++ wTex cA vT) ++ wSta cA vS) ++ wSta cA vE) ++ wHis cA vH) ++ wRol cA vR) ++ wAna cA vA) ++ wClo cA vC)) : va_W) H := hP
  have hD : va_D A (((h0, Sum.inr (6, [.ref (vT 0), .ref (vS 0), .ref (vE 0), .ref (vH 0 0), .ref (vR 0), .ref (vA 0), .null, .null, .int 0])) :: (((((((([] : va_W) ++ wTex cA vT) ++ wSta cA vS) ++ wSta cA vE) ++ wHis cA vH) ++ wRol cA vR) ++ wAna cA vA) ++ wClo cA vC)) : va_W) := hD
  refine nb_putF (v := .ref (vC 0)) hx hb ht hown hin hK rfl hP hD hS ffX6_50 rfl rfl (Nat.le_of_ble_eq_true rfl) dX6_init_78 (fun H locs hP hD hS => ?_)
  have hP : va_P D vwCl (((h0, Sum.inr (6, [.ref (vT 0), .ref (vS 0), .ref (vE 0), .ref (vH 0 0), .ref (vR 0), .ref (vA 0), .ref (vC 0), .null, .int 0])) :: (((((((([] : va_W) ++ wTex cA vT) ++ wSta cA vS) ++ wSta cA vE) ++ wHis cA vH) ++ wRol cA vR) ++ wAna cA vA) ++ wClo cA vC)) : va_W) H := hP
  have hD : va_D A (((h0, Sum.inr (6, [.ref (vT 0), .ref (vS 0), .ref (vE 0), .ref (vH 0 0), .ref (vR 0), .ref (vA 0), .ref (vC 0), .null, .int 0])) :: (((((((([] : va_W) ++ wTex cA vT) ++ wSta cA vS) ++ wSta cA vE) ++ wHis cA vH) ++ wRol cA vR) ++ wAna cA vA) ++ wClo cA vC)) : va_W) := hD
  refine lv_aload_n hx hb dX6_init_81 rfl (lv_at hl 0 rfl) ?_
  refine nb_mkN hx hb hml hl.1 hown ht hK hP hD hS hA nwX6_47 mk_X1 ikX1 nkX6_49 ⟨(Nat.le_of_ble_eq_true rfl), (Nat.le_of_ble_eq_true rfl)⟩ ⟨(Nat.le_of_ble_eq_true rfl), (Nat.le_of_ble_eq_true rfl)⟩ (Nat.le_of_ble_eq_true rfl) dX6_init_82 dX6_init_85 dX6_init_86 (fun vD H locs hP hD hS => ?_)
  have hP : va_P D vwCl (((h0, Sum.inr (6, [.ref (vT 0), .ref (vS 0), .ref (vE 0), .ref (vH 0 0), .ref (vR 0), .ref (vA 0), .ref (vC 0), .null, .int 0])) :: ((((((((([] : va_W) ++ wTex cA vT) ++ wSta cA vS) ++ wSta cA vE) ++ wHis cA vH) ++ wRol cA vR) ++ wAna cA vA) ++ wClo cA vC) ++ wClo cA vD)) : va_W) H := hP
  have hD : va_D A (((h0, Sum.inr (6, [.ref (vT 0), .ref (vS 0), .ref (vE 0), .ref (vH 0 0), .ref (vR 0), .ref (vA 0), .ref (vC 0), .null, .int 0])) :: ((((((((([] : va_W) ++ wTex cA vT) ++ wSta cA vS) ++ wSta cA vE) ++ wHis cA vH) ++ wRol cA vR) ++ wAna cA vA) ++ wClo cA vC) ++ wClo cA vD)) : va_W) := hD
  refine nb_putF (v := .ref (vD 0)) hx hb ht hown hin hK rfl hP hD hS ffX6_54 rfl rfl (Nat.le_of_ble_eq_true rfl) dX6_init_89 (fun H locs hP hD hS => ?_)
  have hP : va_P D vwCl (((h0, Sum.inr (6, [.ref (vT 0), .ref (vS 0), .ref (vE 0), .ref (vH 0 0), .ref (vR 0), .ref (vA 0), .ref (vC 0), .ref (vD 0), .int 0])) :: ((((((((([] : va_W) ++ wTex cA vT) ++ wSta cA vS) ++ wSta cA vE) ++ wHis cA vH) ++ wRol cA vR) ++ wAna cA vA) ++ wClo cA vC) ++ wClo cA vD)) : va_W) H := hP
  have hD : va_D A (((h0, Sum.inr (6, [.ref (vT 0), .ref (vS 0), .ref (vE 0), .ref (vH 0 0), .ref (vR 0), .ref (vA 0), .ref (vC 0), .ref (vD 0), .int 0])) :: ((((((((([] : va_W) ++ wTex cA vT) ++ wSta cA vS) ++ wSta cA vE) ++ wHis cA vH) ++ wRol cA vR) ++ wAna cA vA) ++ wClo cA vC) ++ wClo cA vD)) : va_W) := hD
  refine lv_aload_n hx hb dX6_init_92 rfl (lv_at hl 0 rfl) ?_
  refine lv_iconst (v := 0) hx hb dX6_init_93 (by decide) ?_
  refine nb_put (v := .int 0) hx hb ht hown hK rfl hP hD hS fpX6_57 (by decide) (by decide) (Nat.le_of_ble_eq_true rfl) dX6_init_94 (fun H locs hP hD hS => ?_)
  have hP : va_P D vwCl (((h0, Sum.inr (6, [.ref (vT 0), .ref (vS 0), .ref (vE 0), .ref (vH 0 0), .ref (vR 0), .ref (vA 0), .ref (vC 0), .ref (vD 0), .int 0])) :: ((((((((([] : va_W) ++ wTex cA vT) ++ wSta cA vS) ++ wSta cA vE) ++ wHis cA vH) ++ wRol cA vR) ++ wAna cA vA) ++ wClo cA vC) ++ wClo cA vD)) : va_W) H := hP
  have hD : va_D A (((h0, Sum.inr (6, [.ref (vT 0), .ref (vS 0), .ref (vE 0), .ref (vH 0 0), .ref (vR 0), .ref (vA 0), .ref (vC 0), .ref (vD 0), .int 0])) :: ((((((((([] : va_W) ++ wTex cA vT) ++ wSta cA vS) ++ wSta cA vE) ++ wHis cA vH) ++ wRol cA vR) ++ wAna cA vA) ++ wClo cA vC) ++ wClo cA vD)) : va_W) := hD
  refine W.widen (k := 95) (n := 1624) (Nat.le_of_ble_eq_true rfl) (Nat.le_of_ble_eq_true rfl) ?_
  exact W.vret hx hb hr (fun t ht hW => ⟨⟨(fun b => match b with | 0 => fun _ => h0 | 1 => vT | 2 => vS | 3 => vE | 5 => vR | 6 => vA | 7 => vC | _ => vD, vH), rfl, rfl, by rw [ht]; exact hP, hD⟩, hS.F ht⟩) hS.2.2 dX6_init_97
