/-! Constructors: rows for what they do. -/
def ty3 (cA : Nat → ClassId) : List (ClassId × FieldType) := [(cA 0, .int), (cA 1, .boolean), (cA 2, .object "ConfinementAnalyzer$State")]
def KcT (D : va_G) (cA : Nat → ClassId) (U : State) : Prop := va_K D vwCl (ty3 cA) U ∧ NWok U nestL ∧ va_AO "ConfinementAnalyzer$State" U
theorem KcT.warm {D : va_G} {cA : Nat → ClassId} {s U : State} (hW : s.WarmedH U.vm) (h : KcT D cA s) : KcT D cA U := ⟨va_K.moved hW.alike h.1, fun q hm => (h.2.1 q hm).warmM hW, va_AO.moved hW.alike h.2.2⟩
theorem KcT.same {D : va_G} {cA : Nat → ClassId} {u U : State} (hv : U.vm = u.vm) (h : KcT D cA u) : KcT D cA U := by
  have ha : u.vm.Alike U.vm := by rw [hv]; exact Vm.Alike.refl u.vm
  exact ⟨va_K.moved ha h.1, fun q hm => va_Nw.same rfl hv.symm (h.2.1 q hm), va_AO.moved ha h.2.2⟩
def zf : Nat → Int32 := fun _ => 0
def rmC (d mc ms : Nat) : Room := { frames := d, cells := mc, slots := ms, locals := 39 * d }
/-- a constructor's contract: from one blank object, the cells of its block -/
def Mk {S : Type} (l : Launch) (D : va_G) (cA : Nat → ClassId) (y : MethodName) (I : Mi) (d mc ms ci : Nat) (fs : List Value) (hd : S → Nat) (blk : S → va_W) : Prop := ∀ (h0 sz : Nat), Met l y (wsG y I) (rmC d mc ms) (va_Pc [.ref h0] (fun U => U.heap.size = sz ∧ va_P D vwCl [(h0, .inr (ci, fs))] U.heap ∧ KcT D cA U)) (va_Qv (fun u : S => hd u = h0) (fun u t => va_P D vwCl (blk u) t.heap ∧ va_D (va_A [(h0, .inr (ci, fs))] sz) (blk u)) (va_A [(h0, .inr (ci, fs))] sz)) mc ms (va_A [(h0, .inr (ci, fs))] sz)
theorem nb_D1 {x : Nat × va_E} : va_D (fun _ => True) [x] := by
  refine ⟨fun i j p q hi hj _ => ?_, fun _ _ _ => trivial⟩
  have h1 : i < 1 := (List.getElem?_eq_some_iff.mp hi).1
  have h2 : j < 1 := (List.getElem?_eq_some_iff.mp hj).1
  omega
theorem nb_at {ws w2 : va_W} {k : Nat} {q : Nat × va_E} (h : ws[k]? = some q) : (ws ++ w2)[k]? = some q := by
  rw [List.getElem?_append_left (List.getElem?_eq_some_iff.mp h).1]; exact h
/-- behind a constructor: the caller's cells and the new block -/
theorem nb_join {A0 : Nat → Prop} {D : va_G} {ws w1 : va_W} {x : Nat × va_E} {H H1 : Heap} (hP : va_P D vwCl (ws ++ [x]) H) (hD : va_D A0 (ws ++ [x])) (hk : ∀ q : Nat, q < H.size → ¬ va_A [x] H.size q → H1[q]? = H[q]?) (hF : ∀ q, va_A [x] H.size q → A0 q) (hP1 : va_P D vwCl w1 H1) (hD1 : va_D (va_A [x] H.size) w1) : va_P D vwCl (ws ++ w1) H1 ∧ va_D A0 (ws ++ w1) := by
  have ex : (ws ++ [x])[ws.length]? = some x := by rw [List.getElem?_append_right (Nat.le_refl _), Nat.sub_self]; rfl
  have apart : ∀ (k : Nat) (q : Nat × va_E), ws[k]? = some q → q.1 < H.size ∧ ¬ va_A [x] H.size q.1 := by
    intro k q hq
    have hl := (hP k q (nb_at hq)).lt
    refine ⟨hl, fun h => ?_⟩
    rcases h with ⟨k2, e, h⟩ | h
    · have h1 : k2 < 1 := (List.getElem?_eq_some_iff.mp h).1
      have h2 : k2 = 0 := by omega
      subst h2
      have e2 : x = (q.1, e) := Option.some.inj h
      have := hD.1 k ws.length q x (nb_at hq) ex (by rw [e2])
      have := (List.getElem?_eq_some_iff.mp hq).1
      omega
    · omega
  refine ⟨va_P.app (fun k q hq => ?_) hP1, va_D.app ⟨fun i j p q hi hj h => hD.1 i j p q (nb_at hi) (nb_at hj) h, fun k q hq => hD.2 k q (nb_at hq)⟩ (hD1.weaken (fun k q _ h => hF q.1 h)) (fun i j p q hi hj h => ?_)⟩
  · obtain ⟨g1, g2⟩ := apart k q hq
    exact (hP k q (nb_at hq)).kept (hk q.1 g1 g2)
  · exact (apart i p hi).2 (by rw [h]; exact hD1.2 j q hj)
theorem gw_arrI : Cond.arrayClass .int ∈ GW := gw_of 115 (by decide +kernel) (by decide +kernel)
theorem gw_arrZ : Cond.arrayClass .boolean ∈ GW := gw_of 855 (by decide +kernel) (by decide +kernel)
theorem gw_oiM : Cond.instanceMethod Lib.objectInit ∈ GW := gw_of 86 (by decide +kernel) (by decide +kernel)
theorem gw_oiC : Cond.code Lib.objectInit ⟨#[0xb1]⟩ 1 none ∈ GW := gw_of 87 (by decide +kernel) (by decide +kernel)
def FFok (own : String) (idx ci j : Nat) (ty : FieldType) : Prop := ∃ (C : String) (T : u_T) (N : Nat) (ty0 : Nat → FieldType), vwCl[ci]? = some (C, T, N) ∧ j < N ∧ (∀ w ∈ u_ws C T N, w ∈ GW) ∧ Cond.fieldLink own idx (T j).1 (T j).2.1 (T j).2.2.1 ∈ GW ∧ (∀ k, k < N → parseFieldDescriptor (T k).2.2.1 = some (ty0 k)) ∧ (∀ a, a < N → ∀ b, b < N → a ≠ b → (T a).2.1 ≠ (T b).2.1) ∧ (T j).2.2.2 = true ∧ (T j).1 = own ∧ parseFieldDescriptor (T j).2.2.1 = some ty
section NB
variable {p : Program} {l : Launch} {e : Env} {R : Room} {s : State} {m : MethodId} {args : Array Value} {below : List Frame} {meth : Method} {c : Code} {H : Heap} {locs : List Loc} {cells slots : Nat} {Q : State → Prop}
variable {cc : ByteArray} {pc : Nat} {ls : Array Slot} {rest : List Value} {D : va_G} {cA : Nat → ClassId} {A : Nat → Prop} {ws : va_W}
theorem nb_newi (hx : p.tables.exec = Jvm.exec) (hb : c.code = cc) (ht : ∀ w ∈ GW, w.before args s = true) (hK : KcT D cA s) (hP : va_P D vwCl ws H) (hD : va_D A ws) (hS : va_S A s.heap H locs) (hA : ∀ q, s.heap.size ≤ q → A q) {n : Int32} {N : Nat} (hn : ¬ n < 0) (hN : n.toNatClampNeg = N) (hb4 : N ≤ 1000) (hcells : cells + 1 ≤ R.cells) (hslots : slots + N ≤ R.slots) (hdg : decode cc pc = .ok (.newarray .int, 2))
    (kk : ∀ (q : Nat) (H1 : Heap), va_P D vwCl (ws ++ [(q, .inl (cA 0, N, .inl zf))]) H1 → va_D A (ws ++ [(q, .inl (cA 0, N, .inl zf))]) → va_S A s.heap H1 locs → W p l e R s m args below meth c H1 locs (cells + 1) (slots + N) Q (F0 m (pc + 2) ls (.ref q :: rest))) : W p l e R s m args below meth c H locs cells slots Q (F0 m pc ls (.int n :: rest)) := by
  refine va_newa (atype := .int) (ty := .int) hx hb (ht _ gw_arrI) rfl hK.1 hP hD hS hA (a0 := (N, .inl zf)) (fun _ => rfl) hn hN (by show N * 4 ≤ _; omega) hcells hslots hdg (fun q c' H1 k1 p1 d1 s1 => ?_)
  have e1 : s.vm.findClass ("[" ++ FieldType.int.toString) = some c' := (k1.2 3 _ rfl).2
  have e2 : s.vm.findClass ("[" ++ FieldType.int.toString) = some (cA 0) := (hK.1.2 0 _ rfl).2
  have e3 : c' = cA 0 := Option.some.inj (e1.symm.trans e2)
  subst e3
  exact kk q H1 p1 d1 s1
theorem nb_newz (hx : p.tables.exec = Jvm.exec) (hb : c.code = cc) (ht : ∀ w ∈ GW, w.before args s = true) (hK : KcT D cA s) (hP : va_P D vwCl ws H) (hD : va_D A ws) (hS : va_S A s.heap H locs) (hA : ∀ q, s.heap.size ≤ q → A q) {n : Int32} {N : Nat} (hn : ¬ n < 0) (hN : n.toNatClampNeg = N) (hb4 : N ≤ 1000) (hcells : cells + 1 ≤ R.cells) (hslots : slots + N ≤ R.slots) (hdg : decode cc pc = .ok (.newarray .boolean, 2))
    (kk : ∀ (q : Nat) (H1 : Heap), va_P D vwCl (ws ++ [(q, .inl (cA 1, N, .inl zf))]) H1 → va_D A (ws ++ [(q, .inl (cA 1, N, .inl zf))]) → va_S A s.heap H1 locs → W p l e R s m args below meth c H1 locs (cells + 1) (slots + N) Q (F0 m (pc + 2) ls (.ref q :: rest))) : W p l e R s m args below meth c H locs cells slots Q (F0 m pc ls (.int n :: rest)) := by
  refine va_newa (atype := .boolean) (ty := .boolean) hx hb (ht _ gw_arrZ) rfl hK.1 hP hD hS hA (a0 := (N, .inl zf)) (fun _ => rfl) hn hN (by show N * 1 ≤ _; omega) hcells hslots hdg (fun q c' H1 k1 p1 d1 s1 => ?_)
  have e1 : s.vm.findClass ("[" ++ FieldType.boolean.toString) = some c' := (k1.2 3 _ rfl).2
  have e2 : s.vm.findClass ("[" ++ FieldType.boolean.toString) = some (cA 1) := (hK.1.2 1 _ rfl).2
  have e3 : c' = cA 1 := Option.some.inj (e1.symm.trans e2)
  subst e3
  exact kk q H1 p1 d1 s1
theorem nb_newq (hx : p.tables.exec = Jvm.exec) (hb : c.code = cc) {own : String} {index : Nat} (hown : s.vm.findClass own = some m.cls) (hcl : (Cond.classLink own index "ConfinementAnalyzer$State").before args s = true) (hK : KcT D cA s) (hP : va_P D vwCl ws H) (hD : va_D A ws) (hS : va_S A s.heap H locs) (hA : ∀ q, s.heap.size ≤ q → A q) {n : Int32} {N : Nat} (hn : ¬ n < 0) (hN : n.toNatClampNeg = N) (hb4 : N ≤ 1000) (hcells : cells + 1 ≤ R.cells) (hslots : slots + N ≤ R.slots) (hdg : decode cc pc = .ok (.anewarray index, 3))
    (kk : ∀ (q : Nat) (H1 : Heap), va_P D vwCl (ws ++ [(q, .inl (cA 2, N, .inr (.inr (.inr (.inr (fun _ => none))))))]) H1 → va_D A (ws ++ [(q, .inl (cA 2, N, .inr (.inr (.inr (.inr (fun _ => none))))))]) → va_S A s.heap H1 locs → W p l e R s m args below meth c H1 locs (cells + 1) (slots + N) Q (F0 m (pc + 3) ls (.ref q :: rest))) : W p l e R s m args below meth c H locs cells slots Q (F0 m pc ls (.int n :: rest)) := by
  refine va_newq hx hb hown hcl hK.2.2 hK.1 hP hD hS hA hn hN (by omega) hcells hslots hdg (fun q c' H1 k1 p1 d1 s1 => ?_)
  obtain ⟨_, _, _, _, _, e1⟩ := (k1.2 3 _ rfl).2
  obtain ⟨_, _, _, _, _, e2⟩ := (hK.1.2 2 _ rfl).2
  have e3 : c' = cA 2 := Option.some.inj (e1.symm.trans e2)
  subst e3
  exact kk q H1 p1 d1 s1
theorem nb_put (hx : p.tables.exec = Jvm.exec) (hb : c.code = cc) (ht : ∀ w ∈ GW, w.before args s = true) {own : String} (hown : s.vm.findClass own = some m.cls) (hK : KcT D cA s) {h0 ci : Nat} {fs : List Value} {x : Nat × va_E} (hx0 : x = (h0, .inr (ci, fs))) (hP : va_P D vwCl (x :: ws) H) (hD : va_D A (x :: ws)) (hS : va_S A s.heap H locs) {idx j : Nat} {ty : FieldType} (hF : FPok own idx ci j ty) {v : Value} (hn : narrow ty v = v) (hfit : fits ty v = true) (hl : j < fs.length) (hdg : decode cc pc = .ok (.putfield idx, 3))
    (kk : ∀ (H1 : Heap) (locs1 : List Loc), va_P D vwCl ((h0, .inr (ci, fs.set j v)) :: ws) H1 → va_D A ((h0, .inr (ci, fs.set j v)) :: ws) → va_S A s.heap H1 locs1 → W p l e R s m args below meth c H1 locs1 cells slots Q (F0 m (pc + 3) ls rest)) : W p l e R s m args below meth c H locs cells slots Q (F0 m pc ls (v :: .ref h0 :: rest)) := by
  subst hx0
  obtain ⟨C, T, N, ty0, h1, h2, h3, h4, t1, t2, t3, t4⟩ := hF
  exact va_put hx hb ht h3 ty0 t1 t2 hown hK.1 hP hD hS 0 rfl h1 j h2 (ht _ h4) (fun _ h => h) t3 t4 hn hfit hl hdg (fun H1 locs1 q1 q2 q3 => kk H1 locs1 q1 q2 q3)
theorem nb_putF (hx : p.tables.exec = Jvm.exec) (hb : c.code = cc) (ht : ∀ w ∈ GW, w.before args s = true) {own : String} (hown : s.vm.findClass own = some m.cls) (hin : meth.name = "<init>") (hK : KcT D cA s) {h0 ci : Nat} {fs : List Value} {x : Nat × va_E} (hx0 : x = (h0, .inr (ci, fs))) (hP : va_P D vwCl (x :: ws) H) (hD : va_D A (x :: ws)) (hS : va_S A s.heap H locs) {idx j : Nat} {ty : FieldType} (hF : FFok own idx ci j ty) {v : Value} (hn : narrow ty v = v) (hfit : fits ty v = true) (hl : j < fs.length) (hdg : decode cc pc = .ok (.putfield idx, 3))
    (kk : ∀ (H1 : Heap) (locs1 : List Loc), va_P D vwCl ((h0, .inr (ci, fs.set j v)) :: ws) H1 → va_D A ((h0, .inr (ci, fs.set j v)) :: ws) → va_S A s.heap H1 locs1 → W p l e R s m args below meth c H1 locs1 cells slots Q (F0 m (pc + 3) ls rest)) : W p l e R s m args below meth c H locs cells slots Q (F0 m pc ls (v :: .ref h0 :: rest)) := by
  subst hx0
  obtain ⟨C, T, N, ty0, h1, h2, h3, h4, t1, t2, t3, t5, t4⟩ := hF
  exact va_putF hx hb ht h3 ty0 t1 t2 hown hK.1 hP hD hS 0 rfl h1 j h2 (ht _ h4) (fun _ h => h) t3 hin t5 t4 hn hfit hl hdg (fun H1 locs1 q1 q2 q3 => kk H1 locs1 q1 q2 q3)
/-- what making an object of a class wants of the tables -/
def NwOk (own : String) (cix ci : Nat) (fs : List Value) (N : Nat) : Prop := ∃ (C : String) (T : u_T) (ty : Nat → FieldType), vwCl[ci]? = some (C, T, N) ∧ (∀ w ∈ u_ws C T N, w ∈ GW) ∧ (∀ k, k < N → parseFieldDescriptor (T k).2.2.1 = some (ty k)) ∧ Cond.classLink own cix C ∈ GW ∧ Cond.instantiable C N ∈ GW ∧ Cond.initialized C ∈ GW ∧ ∀ j, j < N → defaultValue (ty j) = vp_V fs j
/-- what calling a constructor wants of the tables -/
def InOk (y : MethodName) (J : Mi) : Prop := Cond.code y J.1 J.2.2.1 none ∈ GW ∧ J.2.2.2 = none ∧ Cond.instanceMethod y ∈ GW ∧ Cond.initialized y.cls ∈ GW ∧ y.name = "<init>" ∧ (y.cls ≠ "java/lang/invoke/MethodHandle" ∧ y.cls ≠ "java/lang/invoke/VarHandle" ∧ (parseMethodDescriptor y.desc).map (fun d => d.parameters.length) = some 0)
theorem nb_mkN {S : Type} {hd : S → Nat} {blk : S → va_W} (hx : p.tables.exec = Jvm.exec) (hb : c.code = cc) {nL : Nat} (hml : c.maxLocals = nL) (hsz : ls.size = nL) {own : String} (hown : s.vm.findClass own = some m.cls) (ht : ∀ w ∈ GW, w.before args s = true) (hK : KcT D cA s) (hP : va_P D vwCl ws H) (hD : va_D A ws) (hS : va_S A s.heap H locs) (hA : ∀ q, s.heap.size ≤ q → A q) {cix ci N idx d mc ms : Nat} {fs : List Value} {y : MethodName} {J : Mi} (hN : NwOk own cix ci fs N) (hM : Mk l D cA y J d mc ms ci fs hd blk) (hI : InOk y J) {host : String} (hlk : (own, idx, y, host) ∈ nestL) (hR : d + 1 ≤ R.frames ∧ 8 + (J.2.2.1 + 11) + 39 * d ≤ R.locals) (hcs : cells + 1 + mc ≤ R.cells ∧ slots + N + ms ≤ R.slots) (h8 : ((Value.ref 0 :: rest).map fun v => v.category).sum ≤ 8) (hd1 : decode cc pc = .ok (.new cix, 3)) (hd2 : decode cc (pc + 3) = .ok (.dup, 1)) (hd3 : decode cc (pc + 4) = .ok (.invokespecial idx, 3))
    (kk : ∀ (u : S) (H1 : Heap) (locs1 : List Loc), va_P D vwCl (ws ++ blk u) H1 → va_D A (ws ++ blk u) → va_S A s.heap H1 locs1 → W p l e R s m args below meth c H1 locs1 (cells + 1 + mc) (slots + N + ms) Q (F0 m (pc + 7) ls (.ref (hd u) :: rest))) : W p l e R s m args below meth c H locs cells slots Q (F0 m pc ls rest) := by
  obtain ⟨C, T, ty, n1, n2, n3, n4, n5, n6, n7⟩ := hN
  refine va_new (ci := ci) (fs := fs) hx hb ht n2 ty n3 hown (ht _ n4) (ht _ n5) (ht _ n6) hK.1 hP hD hS hA n1 n7 (by omega) (by omega) hd1 (fun h0 H hP hD hS => ?_)
  refine lv_dup hx hb hd2 rfl ?_
  have ex : (ws ++ [(h0, Sum.inr (ci, fs))])[ws.length]? = some (h0, Sum.inr (ci, fs)) := by rw [List.getElem?_append_right (Nat.le_refl _), Nat.sub_self]; rfl
  have hPc : va_P D vwCl [(h0, .inr (ci, fs))] H := by
    intro k q hq
    have h1 : k < 1 := (List.getElem?_eq_some_iff.mp hq).1
    have h2 : k = 0 := by omega
    subst h2
    have e2 : (h0, Sum.inr (ci, fs)) = q := Option.some.inj hq
    rw [← e2]
    exact hP _ _ ex
  have hFc : ∀ q, va_A [(h0, .inr (ci, fs))] H.size q → A q := by
    intro q h
    rcases h with ⟨k, e', h⟩ | h
    · have h1 : k < 1 := (List.getElem?_eq_some_iff.mp h).1
      have h2 : k = 0 := by omega
      subst h2
      have e2 : (h0, Sum.inr (ci, fs)) = (q, e') := Option.some.inj h
      have e3 : h0 = q := congrArg Prod.fst e2
      rw [← e3]
      exact hD.2 _ _ ex
    · exact hA q (Nat.le_trans hS.1 h)
  have hwe : wsG y J = Cond.code y J.1 J.2.2.1 none :: GW := by unfold wsG; rw [hI.2.1]
  have hGI : GoodIn GW (wsG y J) := gIn (by rw [hI.2.1]; exact hI.1)
  refine va_callv (va_runIN (e := e) (below := below) (meth := meth) (H := H) (cells := cells + 1) (slots := slots + N) (g := F0 m (pc + 4) ls (.ref h0 :: .ref h0 :: rest)) (As := []) (rest := .ref h0 :: rest) ⟨hx, hb, hml, hown, ht⟩ (hM h0 H.size) ⟨va_cnB (R := R) (own := own) (index := idx) (host := host) (rm := rmC d mc ms) (mc := mc) (ms := ms) 0 ht hGI hwe rfl rfl (hK.2.1 _ hlk) (ht _ hI.2.2.2.1) hI.2.2.2.2.2 hR, hI.2.2.2.2.1, ht _ hI.2.2.1⟩ ⟨fun a U g mk q => ⟨q.1, q.2.1, q.2.2.1, KcT.same (u := U) rfl q.2.2.2⟩, fun U hU hW => ⟨rfl, by rw [hU], by rw [hU]; exact hPc, hK.warm hW⟩⟩ rfl rfl hsz rfl (lv_room (st := .ref h0 :: rest) h8) hd3 hcs) hS (fun q _ h => hFc q h) hFc (fun u t H1 locs1 ht1 hvm hw hB hz1 hk1 hS1 => ?_)
  obtain ⟨hP1, hD1⟩ := hB
  rw [ht1] at hP1
  obtain ⟨hP2, hD2⟩ := nb_join hP hD hk1 hFc hP1 hD1
  have e0 : hd u = h0 := hw
  have h9 := kk u H1 locs1 hP2 hD2 hS1
  rw [e0] at h9
  exact h9
theorem nb_mkP {S : Type} {hd : S → Nat} {blk : S → va_W} (hx : p.tables.exec = Jvm.exec) (hb : c.code = cc) {nL : Nat} (hml : c.maxLocals = nL) (hsz : ls.size = nL) {own : String} (hown : s.vm.findClass own = some m.cls) (ht : ∀ w ∈ GW, w.before args s = true) (hK : KcT D cA s) (hP : va_P D vwCl ws H) (hD : va_D A ws) (hS : va_S A s.heap H locs) (hA : ∀ q, s.heap.size ≤ q → A q) {cix ci N idx d mc ms : Nat} {fs : List Value} {y : MethodName} {J : Mi} (hN : NwOk own cix ci fs N) (hM : Mk l D cA y J d mc ms ci fs hd blk) (hI : InOk y J) (hlk : Cond.methodLink own idx y ∈ GW) (hR : d + 1 ≤ R.frames ∧ 8 + (J.2.2.1 + 11) + 39 * d ≤ R.locals) (hcs : cells + 1 + mc ≤ R.cells ∧ slots + N + ms ≤ R.slots) (h8 : ((Value.ref 0 :: rest).map fun v => v.category).sum ≤ 8) (hd1 : decode cc pc = .ok (.new cix, 3)) (hd2 : decode cc (pc + 3) = .ok (.dup, 1)) (hd3 : decode cc (pc + 4) = .ok (.invokespecial idx, 3))
    (kk : ∀ (u : S) (H1 : Heap) (locs1 : List Loc), va_P D vwCl (ws ++ blk u) H1 → va_D A (ws ++ blk u) → va_S A s.heap H1 locs1 → W p l e R s m args below meth c H1 locs1 (cells + 1 + mc) (slots + N + ms) Q (F0 m (pc + 7) ls (.ref (hd u) :: rest))) : W p l e R s m args below meth c H locs cells slots Q (F0 m pc ls rest) := by
  obtain ⟨C, T, ty, n1, n2, n3, n4, n5, n6, n7⟩ := hN
  refine va_new (ci := ci) (fs := fs) hx hb ht n2 ty n3 hown (ht _ n4) (ht _ n5) (ht _ n6) hK.1 hP hD hS hA n1 n7 (by omega) (by omega) hd1 (fun h0 H hP hD hS => ?_)
  refine lv_dup hx hb hd2 rfl ?_
  have ex : (ws ++ [(h0, Sum.inr (ci, fs))])[ws.length]? = some (h0, Sum.inr (ci, fs)) := by rw [List.getElem?_append_right (Nat.le_refl _), Nat.sub_self]; rfl
  have hPc : va_P D vwCl [(h0, .inr (ci, fs))] H := by
    intro k q hq
    have h1 : k < 1 := (List.getElem?_eq_some_iff.mp hq).1
    have h2 : k = 0 := by omega
    subst h2
    have e2 : (h0, Sum.inr (ci, fs)) = q := Option.some.inj hq
    rw [← e2]
    exact hP _ _ ex
  have hFc : ∀ q, va_A [(h0, .inr (ci, fs))] H.size q → A q := by
    intro q h
    rcases h with ⟨k, e', h⟩ | h
    · have h1 : k < 1 := (List.getElem?_eq_some_iff.mp h).1
      have h2 : k = 0 := by omega
      subst h2
      have e2 : (h0, Sum.inr (ci, fs)) = (q, e') := Option.some.inj h
      have e3 : h0 = q := congrArg Prod.fst e2
      rw [← e3]
      exact hD.2 _ _ ex
    · exact hA q (Nat.le_trans hS.1 h)
  have hwe : wsG y J = Cond.code y J.1 J.2.2.1 none :: GW := by unfold wsG; rw [hI.2.1]
  have hGI : GoodIn GW (wsG y J) := gIn (by rw [hI.2.1]; exact hI.1)
  refine va_callv (va_runI (e := e) (below := below) (meth := meth) (H := H) (cells := cells + 1) (slots := slots + N) (g := F0 m (pc + 4) ls (.ref h0 :: .ref h0 :: rest)) (As := []) (rest := .ref h0 :: rest) ⟨hx, hb, hml, hown, ht⟩ (hM h0 H.size) (cwI (R := R) (own := own) (index := idx) (rm := rmC d mc ms) (mc := mc) (ms := ms) 0 ht hGI hwe rfl rfl (ht _ hI.2.2.2.1) (ht _ hlk) (ht _ hI.2.2.1) hI.2.2.2.2.1 hI.2.2.2.2.2 hR) ⟨fun a U g mk q => ⟨q.1, q.2.1, q.2.2.1, KcT.same (u := U) rfl q.2.2.2⟩, fun U hU hW => ⟨rfl, by rw [hU], by rw [hU]; exact hPc, hK.warm hW⟩⟩ rfl rfl hsz rfl (lv_room (st := .ref h0 :: rest) h8) hd3 hcs) hS (fun q _ h => hFc q h) hFc (fun u t H1 locs1 ht1 hvm hw hB hz1 hk1 hS1 => ?_)
  obtain ⟨hP1, hD1⟩ := hB
  rw [ht1] at hP1
  obtain ⟨hP2, hD2⟩ := nb_join hP hD hk1 hFc hP1 hD1
  have e0 : hd u = h0 := hw
  have h9 := kk u H1 locs1 hP2 hD2 hS1
  rw [e0] at h9
  exact h9
end NB
theorem ikX0 : InOk yX0_init iX0_init := ⟨gw_of 257 (by decide +kernel) (by decide +kernel), rfl, gw_of 256 (by decide +kernel) (by decide +kernel), gw_of 69 (by decide +kernel) (by decide +kernel), rfl, by decide +kernel⟩
theorem oiX0 : Cond.methodLink RX0 3 Lib.objectInit ∈ GW := gw_of 258 (by decide +kernel) (by decide +kernel)
abbrev fsX0 : List Value := [.null, .null, .null, .null, .null, .null, .null, .int 0, .null, .null, .int 0]
theorem ikX1 : InOk yX1_init iX1_init := ⟨gw_of 302 (by decide +kernel) (by decide +kernel), rfl, gw_of 301 (by decide +kernel) (by decide +kernel), gw_of 70 (by decide +kernel) (by decide +kernel), rfl, by decide +kernel⟩
theorem oiX1 : Cond.methodLink RX1 3 Lib.objectInit ∈ GW := gw_of 303 (by decide +kernel) (by decide +kernel)
abbrev fsX1 : List Value := [.null, .int 0]
theorem ikX2 : InOk yX2_init iX2_init := ⟨gw_of 176 (by decide +kernel) (by decide +kernel), rfl, gw_of 175 (by decide +kernel) (by decide +kernel), gw_of 67 (by decide +kernel) (by decide +kernel), rfl, by decide +kernel⟩
theorem oiX2 : Cond.methodLink RX2 3 Lib.objectInit ∈ GW := gw_of 177 (by decide +kernel) (by decide +kernel)
abbrev fsX2 : List Value := [.null, .int 0, .int 0]
theorem ikX3 : InOk yX3_init iX3_init := ⟨gw_of 196 (by decide +kernel) (by decide +kernel), rfl, gw_of 195 (by decide +kernel) (by decide +kernel), gw_of 68 (by decide +kernel) (by decide +kernel), rfl, by decide +kernel⟩
theorem oiX3 : Cond.methodLink RX3 3 Lib.objectInit ∈ GW := gw_of 197 (by decide +kernel) (by decide +kernel)
abbrev fsX3 : List Value := [.int 0, .int 0, .int 0, .int 0, .int 0, .int 0, .int 0, .null, .null, .null, .null, .null]
theorem ikX4 : InOk yX4_init iX4_init := ⟨gw_of 120 (by decide +kernel) (by decide +kernel), rfl, gw_of 119 (by decide +kernel) (by decide +kernel), gw_of 66 (by decide +kernel) (by decide +kernel), rfl, by decide +kernel⟩
theorem oiX4 : Cond.methodLink RX4 3 Lib.objectInit ∈ GW := gw_of 121 (by decide +kernel) (by decide +kernel)
abbrev fsX4 : List Value := [.int 0, .null, .null, .null, .null, .int 0, .null, .null, .int 0, .null, .null, .null]
theorem ikX5 : InOk yX5_init iX5_init := ⟨gw_of 92 (by decide +kernel) (by decide +kernel), rfl, gw_of 91 (by decide +kernel) (by decide +kernel), gw_of 65 (by decide +kernel) (by decide +kernel), rfl, by decide +kernel⟩
theorem oiX5 : Cond.methodLink RX5 3 Lib.objectInit ∈ GW := gw_of 93 (by decide +kernel) (by decide +kernel)
abbrev fsX5 : List Value := [.null, .int 0, .int 0, .int 0, .int 0, .null]
theorem ikX6 : InOk yX6_init iX6_init := ⟨gw_of 84 (by decide +kernel) (by decide +kernel), rfl, gw_of 83 (by decide +kernel) (by decide +kernel), gw_of 64 (by decide +kernel) (by decide +kernel), rfl, by decide +kernel⟩
theorem oiX6 : Cond.methodLink RX6 3 Lib.objectInit ∈ GW := gw_of 85 (by decide +kernel) (by decide +kernel)
abbrev fsX6 : List Value := [.null, .null, .null, .null, .null, .null, .null, .null, .int 0]
theorem ikX7 : InOk yX7_init iX7_init := ⟨gw_of 801 (by decide +kernel) (by decide +kernel), rfl, gw_of 800 (by decide +kernel) (by decide +kernel), gw_of 71 (by decide +kernel) (by decide +kernel), rfl, by decide +kernel⟩
theorem oiX7 : Cond.methodLink RX7 1 Lib.objectInit ∈ GW := gw_of 802 (by decide +kernel) (by decide +kernel)
abbrev fsX7 : List Value := [.int 0, .null, .null, .null, .int 0, .null, .int 0, .int 0, .int 0, .int 0, .int 0, .int 0, .null, .int 0, .null, .null, .int 0]
theorem nwL_7 : NwOk RL 7 6 fsX6 9 := ⟨RX6, TX6, tyX6, rfl, inG6, tyX6_ok, gw_of 80 (by decide +kernel) (by decide +kernel), gw_of 81 (by decide +kernel) (by decide +kernel), gw_of 64 (by decide +kernel) (by decide +kernel), by decide +kernel⟩
theorem nwX6_9 : NwOk RX6 9 5 fsX5 6 := ⟨RX5, TX5, tyX5, rfl, inG5, tyX5_ok, gw_of 88 (by decide +kernel) (by decide +kernel), gw_of 89 (by decide +kernel) (by decide +kernel), gw_of 65 (by decide +kernel) (by decide +kernel), by decide +kernel⟩
theorem nwX6_16 : NwOk RX6 16 4 fsX4 12 := ⟨RX4, TX4, tyX4, rfl, inG4, tyX4_ok, gw_of 116 (by decide +kernel) (by decide +kernel), gw_of 117 (by decide +kernel) (by decide +kernel), gw_of 66 (by decide +kernel) (by decide +kernel), by decide +kernel⟩
theorem nwX6_26 : NwOk RX6 26 2 fsX2 3 := ⟨RX2, TX2, tyX2, rfl, inG2, tyX2_ok, gw_of 172 (by decide +kernel) (by decide +kernel), gw_of 173 (by decide +kernel) (by decide +kernel), gw_of 67 (by decide +kernel) (by decide +kernel), by decide +kernel⟩
theorem nwX2_9 : NwOk RX2 9 4 fsX4 12 := ⟨RX4, TX4, tyX4, rfl, inG4, tyX4_ok, gw_of 178 (by decide +kernel) (by decide +kernel), gw_of 117 (by decide +kernel) (by decide +kernel), gw_of 66 (by decide +kernel) (by decide +kernel), by decide +kernel⟩
theorem nwX6_33 : NwOk RX6 33 3 fsX3 12 := ⟨RX3, TX3, tyX3, rfl, inG3, tyX3_ok, gw_of 192 (by decide +kernel) (by decide +kernel), gw_of 193 (by decide +kernel) (by decide +kernel), gw_of 68 (by decide +kernel) (by decide +kernel), by decide +kernel⟩
theorem nwX6_40 : NwOk RX6 40 0 fsX0 11 := ⟨RX0, TX0, tyX0, rfl, inG0, tyX0_ok, gw_of 253 (by decide +kernel) (by decide +kernel), gw_of 254 (by decide +kernel) (by decide +kernel), gw_of 69 (by decide +kernel) (by decide +kernel), by decide +kernel⟩
theorem nwX6_47 : NwOk RX6 47 1 fsX1 2 := ⟨RX1, TX1, tyX1, rfl, inG1, tyX1_ok, gw_of 298 (by decide +kernel) (by decide +kernel), gw_of 299 (by decide +kernel) (by decide +kernel), gw_of 70 (by decide +kernel) (by decide +kernel), by decide +kernel⟩
theorem nwL_10 : NwOk RL 10 7 fsX7 17 := ⟨RX7, TX7, tyX7, rfl, inG7, tyX7_ok, gw_of 797 (by decide +kernel) (by decide +kernel), gw_of 798 (by decide +kernel) (by decide +kernel), gw_of 71 (by decide +kernel) (by decide +kernel), by decide +kernel⟩
theorem ffX0_9 : FFok RX0 9 0 0 (.array .int) := ⟨RX0, TX0, 11, tyX0, rfl, by decide, inG0, gw_of 259 (by decide +kernel) (by decide +kernel), tyX0_ok, nmX0, by decide +kernel, by decide +kernel, by decide +kernel⟩
theorem ffX0_15 : FFok RX0 15 0 1 (.array .int) := ⟨RX0, TX0, 11, tyX0, rfl, by decide, inG0, gw_of 261 (by decide +kernel) (by decide +kernel), tyX0_ok, nmX0, by decide +kernel, by decide +kernel, by decide +kernel⟩
theorem ffX0_18 : FFok RX0 18 0 2 (.array .int) := ⟨RX0, TX0, 11, tyX0, rfl, by decide, inG0, gw_of 262 (by decide +kernel) (by decide +kernel), tyX0_ok, nmX0, by decide +kernel, by decide +kernel, by decide +kernel⟩
theorem ffX0_21 : FFok RX0 21 0 3 (.array .int) := ⟨RX0, TX0, 11, tyX0, rfl, by decide, inG0, gw_of 264 (by decide +kernel) (by decide +kernel), tyX0_ok, nmX0, by decide +kernel, by decide +kernel, by decide +kernel⟩
theorem ffX0_24 : FFok RX0 24 0 4 (.array .int) := ⟨RX0, TX0, 11, tyX0, rfl, by decide, inG0, gw_of 266 (by decide +kernel) (by decide +kernel), tyX0_ok, nmX0, by decide +kernel, by decide +kernel, by decide +kernel⟩
theorem ffX0_27 : FFok RX0 27 0 5 (.array .int) := ⟨RX0, TX0, 11, tyX0, rfl, by decide, inG0, gw_of 268 (by decide +kernel) (by decide +kernel), tyX0_ok, nmX0, by decide +kernel, by decide +kernel, by decide +kernel⟩
theorem ffX0_30 : FFok RX0 30 0 6 (.array .int) := ⟨RX0, TX0, 11, tyX0, rfl, by decide, inG0, gw_of 269 (by decide +kernel) (by decide +kernel), tyX0_ok, nmX0, by decide +kernel, by decide +kernel, by decide +kernel⟩
theorem ffX0_37 : FFok RX0 37 0 8 (.array .int) := ⟨RX0, TX0, 11, tyX0, rfl, by decide, inG0, gw_of 272 (by decide +kernel) (by decide +kernel), tyX0_ok, nmX0, by decide +kernel, by decide +kernel, by decide +kernel⟩
theorem ffX0_40 : FFok RX0 40 0 9 (.array .int) := ⟨RX0, TX0, 11, tyX0, rfl, by decide, inG0, gw_of 273 (by decide +kernel) (by decide +kernel), tyX0_ok, nmX0, by decide +kernel, by decide +kernel, by decide +kernel⟩
theorem ffX1_9 : FFok RX1 9 1 0 (.array .int) := ⟨RX1, TX1, 2, tyX1, rfl, by decide, inG1, gw_of 304 (by decide +kernel) (by decide +kernel), tyX1_ok, nmX1, by decide +kernel, by decide +kernel, by decide +kernel⟩
theorem ffX2_11 : FFok RX2 11 2 0 (.array (.object "ConfinementAnalyzer$State")) := ⟨RX2, TX2, 3, tyX2, rfl, by decide, inG2, gw_of 181 (by decide +kernel) (by decide +kernel), tyX2_ok, nmX2, by decide +kernel, by decide +kernel, by decide +kernel⟩
theorem ffX3_33 : FFok RX3 33 3 7 (.array .int) := ⟨RX3, TX3, 12, tyX3, rfl, by decide, inG3, gw_of 217 (by decide +kernel) (by decide +kernel), tyX3_ok, nmX3, by decide +kernel, by decide +kernel, by decide +kernel⟩
theorem ffX3_37 : FFok RX3 37 3 8 (.array .int) := ⟨RX3, TX3, 12, tyX3, rfl, by decide, inG3, gw_of 219 (by decide +kernel) (by decide +kernel), tyX3_ok, nmX3, by decide +kernel, by decide +kernel, by decide +kernel⟩
theorem ffX3_40 : FFok RX3 40 3 9 (.array .int) := ⟨RX3, TX3, 12, tyX3, rfl, by decide, inG3, gw_of 222 (by decide +kernel) (by decide +kernel), tyX3_ok, nmX3, by decide +kernel, by decide +kernel, by decide +kernel⟩
theorem ffX3_43 : FFok RX3 43 3 10 (.array .int) := ⟨RX3, TX3, 12, tyX3, rfl, by decide, inG3, gw_of 224 (by decide +kernel) (by decide +kernel), tyX3_ok, nmX3, by decide +kernel, by decide +kernel, by decide +kernel⟩
theorem ffX3_46 : FFok RX3 46 3 11 (.array .int) := ⟨RX3, TX3, 12, tyX3, rfl, by decide, inG3, gw_of 226 (by decide +kernel) (by decide +kernel), tyX3_ok, nmX3, by decide +kernel, by decide +kernel, by decide +kernel⟩
theorem ffX4_15 : FFok RX4 15 4 1 (.array .int) := ⟨RX4, TX4, 12, tyX4, rfl, by decide, inG4, gw_of 126 (by decide +kernel) (by decide +kernel), tyX4_ok, nmX4, by decide +kernel, by decide +kernel, by decide +kernel⟩
theorem ffX4_19 : FFok RX4 19 4 2 (.array .int) := ⟨RX4, TX4, 12, tyX4, rfl, by decide, inG4, gw_of 128 (by decide +kernel) (by decide +kernel), tyX4_ok, nmX4, by decide +kernel, by decide +kernel, by decide +kernel⟩
theorem ffX4_22 : FFok RX4 22 4 3 (.array .int) := ⟨RX4, TX4, 12, tyX4, rfl, by decide, inG4, gw_of 130 (by decide +kernel) (by decide +kernel), tyX4_ok, nmX4, by decide +kernel, by decide +kernel, by decide +kernel⟩
theorem ffX4_25 : FFok RX4 25 4 4 (.array .int) := ⟨RX4, TX4, 12, tyX4, rfl, by decide, inG4, gw_of 133 (by decide +kernel) (by decide +kernel), tyX4_ok, nmX4, by decide +kernel, by decide +kernel, by decide +kernel⟩
theorem ffX4_31 : FFok RX4 31 4 6 (.array .int) := ⟨RX4, TX4, 12, tyX4, rfl, by decide, inG4, gw_of 139 (by decide +kernel) (by decide +kernel), tyX4_ok, nmX4, by decide +kernel, by decide +kernel, by decide +kernel⟩
theorem ffX4_34 : FFok RX4 34 4 7 (.array .int) := ⟨RX4, TX4, 12, tyX4, rfl, by decide, inG4, gw_of 140 (by decide +kernel) (by decide +kernel), tyX4_ok, nmX4, by decide +kernel, by decide +kernel, by decide +kernel⟩
theorem ffX4_40 : FFok RX4 40 4 9 (.array .int) := ⟨RX4, TX4, 12, tyX4, rfl, by decide, inG4, gw_of 143 (by decide +kernel) (by decide +kernel), tyX4_ok, nmX4, by decide +kernel, by decide +kernel, by decide +kernel⟩
theorem ffX4_43 : FFok RX4 43 4 10 (.array .int) := ⟨RX4, TX4, 12, tyX4, rfl, by decide, inG4, gw_of 144 (by decide +kernel) (by decide +kernel), tyX4_ok, nmX4, by decide +kernel, by decide +kernel, by decide +kernel⟩
theorem ffX4_46 : FFok RX4 46 4 11 (.array .int) := ⟨RX4, TX4, 12, tyX4, rfl, by decide, inG4, gw_of 145 (by decide +kernel) (by decide +kernel), tyX4_ok, nmX4, by decide +kernel, by decide +kernel, by decide +kernel⟩
theorem ffX5_9 : FFok RX5 9 5 0 (.array .int) := ⟨RX5, TX5, 6, tyX5, rfl, by decide, inG5, gw_of 94 (by decide +kernel) (by decide +kernel), tyX5_ok, nmX5, by decide +kernel, by decide +kernel, by decide +kernel⟩
theorem ffX5_28 : FFok RX5 28 5 5 (.array .int) := ⟨RX5, TX5, 6, tyX5, rfl, by decide, inG5, gw_of 101 (by decide +kernel) (by decide +kernel), tyX5_ok, nmX5, by decide +kernel, by decide +kernel, by decide +kernel⟩
theorem ffX6_12 : FFok RX6 12 6 0 (.object "ConfinementAnalyzer$Text") := ⟨RX6, TX6, 9, tyX6, rfl, by decide, inG6, gw_of 312 (by decide +kernel) (by decide +kernel), tyX6_ok, nmX6, by decide +kernel, by decide +kernel, by decide +kernel⟩
theorem ffX6_19 : FFok RX6 19 6 1 (.object "ConfinementAnalyzer$State") := ⟨RX6, TX6, 9, tyX6, rfl, by decide, inG6, gw_of 313 (by decide +kernel) (by decide +kernel), tyX6_ok, nmX6, by decide +kernel, by decide +kernel, by decide +kernel⟩
theorem ffX6_23 : FFok RX6 23 6 2 (.object "ConfinementAnalyzer$State") := ⟨RX6, TX6, 9, tyX6, rfl, by decide, inG6, gw_of 314 (by decide +kernel) (by decide +kernel), tyX6_ok, nmX6, by decide +kernel, by decide +kernel, by decide +kernel⟩
theorem ffX6_29 : FFok RX6 29 6 3 (.object "ConfinementAnalyzer$History") := ⟨RX6, TX6, 9, tyX6, rfl, by decide, inG6, gw_of 315 (by decide +kernel) (by decide +kernel), tyX6_ok, nmX6, by decide +kernel, by decide +kernel, by decide +kernel⟩
theorem ffX6_36 : FFok RX6 36 6 4 (.object "ConfinementAnalyzer$Roles") := ⟨RX6, TX6, 9, tyX6, rfl, by decide, inG6, gw_of 316 (by decide +kernel) (by decide +kernel), tyX6_ok, nmX6, by decide +kernel, by decide +kernel, by decide +kernel⟩
theorem ffX6_43 : FFok RX6 43 6 5 (.object "ConfinementAnalyzer$Analysis") := ⟨RX6, TX6, 9, tyX6, rfl, by decide, inG6, gw_of 317 (by decide +kernel) (by decide +kernel), tyX6_ok, nmX6, by decide +kernel, by decide +kernel, by decide +kernel⟩
theorem ffX6_50 : FFok RX6 50 6 6 (.object "ConfinementAnalyzer$Closure") := ⟨RX6, TX6, 9, tyX6, rfl, by decide, inG6, gw_of 318 (by decide +kernel) (by decide +kernel), tyX6_ok, nmX6, by decide +kernel, by decide +kernel, by decide +kernel⟩
theorem ffX6_54 : FFok RX6 54 6 7 (.object "ConfinementAnalyzer$Closure") := ⟨RX6, TX6, 9, tyX6, rfl, by decide, inG6, gw_of 319 (by decide +kernel) (by decide +kernel), tyX6_ok, nmX6, by decide +kernel, by decide +kernel, by decide +kernel⟩
theorem ffX7_7 : FFok RX7 7 7 1 (.array .int) := ⟨RX7, TX7, 17, tyX7, rfl, by decide, inG7, gw_of 804 (by decide +kernel) (by decide +kernel), tyX7_ok, nmX7, by decide +kernel, by decide +kernel, by decide +kernel⟩
theorem ffX7_13 : FFok RX7 13 7 2 (.array .int) := ⟨RX7, TX7, 17, tyX7, rfl, by decide, inG7, gw_of 805 (by decide +kernel) (by decide +kernel), tyX7_ok, nmX7, by decide +kernel, by decide +kernel, by decide +kernel⟩
theorem ffX7_16 : FFok RX7 16 7 3 (.array .int) := ⟨RX7, TX7, 17, tyX7, rfl, by decide, inG7, gw_of 806 (by decide +kernel) (by decide +kernel), tyX7_ok, nmX7, by decide +kernel, by decide +kernel, by decide +kernel⟩
theorem ffX7_19 : FFok RX7 19 7 5 (.array .int) := ⟨RX7, TX7, 17, tyX7, rfl, by decide, inG7, gw_of 808 (by decide +kernel) (by decide +kernel), tyX7_ok, nmX7, by decide +kernel, by decide +kernel, by decide +kernel⟩
theorem ffX7_22 : FFok RX7 22 7 12 (.array .int) := ⟨RX7, TX7, 17, tyX7, rfl, by decide, inG7, gw_of 815 (by decide +kernel) (by decide +kernel), tyX7_ok, nmX7, by decide +kernel, by decide +kernel, by decide +kernel⟩
theorem ffX7_25 : FFok RX7 25 7 14 (.array .boolean) := ⟨RX7, TX7, 17, tyX7, rfl, by decide, inG7, gw_of 817 (by decide +kernel) (by decide +kernel), tyX7_ok, nmX7, by decide +kernel, by decide +kernel, by decide +kernel⟩
theorem ffX7_29 : FFok RX7 29 7 15 (.array .int) := ⟨RX7, TX7, 17, tyX7, rfl, by decide, inG7, gw_of 818 (by decide +kernel) (by decide +kernel), tyX7_ok, nmX7, by decide +kernel, by decide +kernel, by decide +kernel⟩
