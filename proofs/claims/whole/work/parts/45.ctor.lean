/-! constructors: the cells that they make, in a list, until they are a part of the world -/
def Wc (D : va_G) (cy : Nat → ClassId) (w : va_W) (sz : Nat) (U : State) : Prop := U.heap.size = sz ∧ va_P D vwCl w U.heap ∧ va_K D vwCl (tyl cy) U ∧ va_D (fun _ => True) w ∧ Xt (va_A w sz) U U.heap
def Ct (l : Launch) (y : MethodName) (ws : List Cond) (rm : Room) (D : va_G) (cy : Nat → ClassId) (As : List Value) (w : va_W) (P : (Nat → Nat → Nat → Nat) → Prop) (ns : List (Nat × Nat × Nat)) (M : Me) (mc ms : Nat) : Prop :=
  ∀ sz : Nat, Met l y ws rm (va_Pc As (Wc D cy w sz)) (va_Qv P (fun ad U => va_P D vwCl (wl cy ad ns M) U.heap ∧ va_K D vwCl (tyl cy) U ∧ va_D (va_A w sz) (wl cy ad ns M)) (va_A w sz)) mc ms (va_A w sz)
abbrev QC (below : List Frame) (D : va_G) (cy : Nat → ClassId) (As : List Value) (s : State) (w : va_W) (P : (Nat → Nat → Nat → Nat) → Prop) (ns : List (Nat × Nat × Nat)) (M : Me) (mc ms : Nat) : State → Prop := MQ below (va_Qv P (fun ad U => va_P D vwCl (wl cy ad ns M) U.heap ∧ va_K D vwCl (tyl cy) U ∧ va_D (va_A w s.heap.size) (wl cy ad ns M)) (va_A w s.heap.size)) As.toArray s mc ms (va_A w s.heap.size)
def Ec (p : Program) (s : State) (m : MethodId) (meth : Method) (c : Code) (y : MethodName) (cc : ByteArray) (maxL : Nat) (D : va_G) (cy : Nat → ClassId) (As : List Value) (w : va_W) : Prop :=
  p.tables.exec = Jvm.exec ∧ c.code = cc ∧ meth.sig.returnType = none ∧ c.maxLocals = maxL ∧ s.vm.findClass y.cls = some m.cls ∧ (∀ v ∈ tk_tb, v.before As.toArray s = true) ∧ meth.locks = false ∧ va_K D vwCl (tyl cy) s ∧ meth.name = y.name ∧ Xt (va_A w s.heap.size) s s.heap
theorem Ct.of {l : Launch} {y : MethodName} {cc : ByteArray} {maxL : Nat} {rm : Room} {D : va_G} {cy : Nat → ClassId} {As : List Value} {w : va_W} {P : (Nat → Nat → Nat → Nat) → Prop} {ns : List (Nat × Nat × Nat)} {M : Me} {mc ms : Nat} (hy : plainName y.cls = true) (hlen : (lg_sl As).length ≤ maxL)
    (body : ∀ (p : Program) (e : Env) (s : State) (m : MethodId) (below : List Frame) (meth : Method) (c : Code) (ls : Array Slot), Ec p s m meth c y cc maxL D cy As w → va_P D vwCl w s.heap → va_D (va_A w s.heap.size) w → va_S (va_A w s.heap.size) s.heap s.heap [] → lv_has ls maxL (lv_args 0 As) → W p l e rm s m As.toArray below meth c s.heap [] 0 0 (QC below D cy As s w P ns M mc ms) (F0 m 0 ls [])) :
    Ct l y (.code y cc maxL none :: tk_tb) rm D cy As w P ns M mc ms := by
  intro sz
  refine Met.ofW (cc := cc) (maxL := maxL) (ret := none) hy rfl ?_
  intro p e s m args below meth c s₁ B hml hv
  obtain ⟨rfl, hsz, hP, hK, hD0, hX⟩ := hv
  subst hsz
  have hts := atoms_spec (ws := Cond.code y cc maxL none :: tk_tb) B.pre
  have hl := lv_entry As (n := maxL) hlen
  rw [lg_entry_eq]
  exact body p e s m below meth c _ ⟨B.exec, B.bytes, B.returns, hml, findClass_of_methodNamed B.named, fun w h => hts w (List.mem_cons_of_mem _ h), B.notSynchronized, hK, (name_of_methodNamed B.named B.method).1, hX⟩ hP hD0.self va_S.rf hl
section YC
variable {p : Program} {l : Launch} {e : Env} {R : Room} {s : State} {m : MethodId} {args : Array Value} {below : List Frame} {meth : Method} {c : Code} {H : Heap} {locs : List Loc} {cells slots : Nat} {Q : State → Prop}
variable {cc : ByteArray} {pc : Nat} {ls : Array Slot} {rest : List Value} {D : va_G} {cy : Nat → ClassId} {A : Nat → Prop} {H0 : Heap} {ws : va_W}
theorem y_vret {As : List Value} {w : va_W} {P : (Nat → Nat → Nat → Nat) → Prop} {ns : List (Nat × Nat × Nat)} {M : Me} (ad : Nat → Nat → Nat → Nat) (hPa : P ad) (hx : p.tables.exec = Jvm.exec) (hb : c.code = cc) (hr : meth.sig.returnType = none) (hlocks : meth.locks = false) (hK : va_K D vwCl (tyl cy) s) (hP : va_P D vwCl (wl cy ad ns M) H) (hD : va_D (va_A w s.heap.size) (wl cy ad ns M)) (hS : va_S (va_A w s.heap.size) s.heap H locs) (hdg : decode cc pc = .ok (.return_, 1)) :
    W p l e R s m As.toArray below meth c H locs cells slots (QC below D cy As s w P ns M cells slots) (F0 m pc ls []) :=
  W.vret hx hb hr (fun t ht hW2 => ⟨⟨ad, rfl, hPa, by rw [ht]; exact hP, va_K.moved hW2.alike hK, hD⟩, hS.F ht⟩) hS.2.2 hdg hlocks
theorem y_cls {ty : FieldType} {cA : ClassId} {k : Nat} (hK : va_K D vwCl (tyl cy) s) (hK1 : va_K D vwCl (tyl cy ++ [(cA, ty)]) s) (hk : (tyl cy)[k]? = some (cy k, ty)) : cA = cy k := by
  have h1 := (hK1.2 5 (cA, ty) rfl).2
  have h2 := (hK.2 k (cy k, ty) hk).2
  cases ty with
  | object C =>
    obtain ⟨-, -, -, -, -, h3⟩ := h1
    obtain ⟨-, -, -, -, -, h4⟩ := h2
    exact Option.some.inj (h3.symm.trans h4)
  | _ => exact Option.some.inj (h1.symm.trans h2)
theorem wl_app {ad : Nat → Nat → Nat → Nat} {a b : List (Nat × Nat × Nat)} {M : Me} : wl cy ad (a ++ b) M = wl cy ad a M ++ wl cy ad b M := List.map_append
theorem rO_cong {n : Nat} {f g : Nat → Nat} (h : ∀ r, r < n → f r = g r) : rO n f = rO n g := by
  funext r
  unfold rO
  split
  · rename_i hr
    rw [h r hr]
  · rfl
theorem ct_lt {ad : Nat → Nat → Nat → Nat} {t i o : Nat} {x : Nat → Int32} (ht : t < 5) : ctA cy ad t i o x = ctSt cy ad t i o x := if_pos ht
theorem y_any {X : va_W} {ad : Nat → Nat → Nat → Nat} {ns : List (Nat × Nat × Nat)} {M : Me} {t i ci : Nat} {fs : List Value} {r : vw_C} (hK : va_K D vwCl (tyl cy) s) (hP : va_P D vwCl (X ++ wl cy ad ns M) H) (hn : (t, i, 0) ∈ ns) (hct : ctA cy ad t i 0 (M t i 0) = .inr (ci, fs)) (hc : vwCl[ci]? = some r) (hz : va_Nw (.castable r.1 "SketchCache$Policy") s) : va_Any "SketchCache$Policy" s H (ad t i 0) := by
  obtain ⟨q, h⟩ := wl_get (cy := cy) (ad := ad) (M := M) hn
  rw [hct] at h
  have h2 : (X ++ wl cy ad ns M)[X.length + q]? = some (ad t i 0, .inr (ci, fs)) := by
    rw [List.getElem?_append_right (by omega), Nat.add_sub_cancel_left]
    exact h
  refine va_rAny hK hP h2 hc (fun comp c0 h3 h4 => ?_)
  have h5 : (Cond.castable r.1 "SketchCache$Policy").before #[] s = true := hz
  simp only [Cond.before, Cond.holds, Cond.value, h3, h4] at h5
  simpa using h5
theorem y_newi (hx : p.tables.exec = Jvm.exec) (hb : c.code = cc) (hts : ∀ w ∈ tk_tb, w.before args s = true) (harr : Cond.arrayClass .int ∈ tk_tb) (hK : va_K D vwCl (tyl cy) s) (hP : va_P D vwCl ws H) (hD : va_D A ws) (hS : va_S A H0 H locs) (hA : ∀ q, H0.size ≤ q → A q) {n : Int32} {N' : Nat} (hn : ¬ n < 0) (hN : n.toNatClampNeg = N') (hbytes : N' * 4 ≤ 536870912) (hcells : cells + 1 ≤ R.cells) (hslots : slots + N' ≤ R.slots) (hdg : decode cc pc = .ok (.newarray .int, 2))
    (kk : ∀ (q : Nat) (H1 : Heap), va_P D vwCl (ws ++ [(q, .inl (cy 0, N', .inl (fun _ => 0)))]) H1 → va_D A (ws ++ [(q, .inl (cy 0, N', .inl (fun _ => 0)))]) → va_S A H0 H1 locs → W p l e R s m args below meth c H1 locs (cells + 1) (slots + N') Q (F0 m (pc + 2) ls (.ref q :: rest))) : W p l e R s m args below meth c H locs cells slots Q (F0 m pc ls (.int n :: rest)) := by
  refine va_newa (atype := .int) hx hb (hts _ harr) (ty := .int) rfl hK hP hD hS hA (a0 := (N', .inl (fun _ => 0))) (fun _ => rfl) hn hN hbytes hcells hslots hdg (fun q cA H1 hK1 hP1 hD1 hS1 => ?_)
  have e : cA = cy 0 := y_cls (k := 0) hK hK1 rfl
  subst e
  exact kk q H1 hP1 hD1 hS1
theorem y_newz (hx : p.tables.exec = Jvm.exec) (hb : c.code = cc) (hts : ∀ w ∈ tk_tb, w.before args s = true) (harr : Cond.arrayClass .boolean ∈ tk_tb) (hK : va_K D vwCl (tyl cy) s) (hP : va_P D vwCl ws H) (hD : va_D A ws) (hS : va_S A H0 H locs) (hA : ∀ q, H0.size ≤ q → A q) {n : Int32} {N' : Nat} (hn : ¬ n < 0) (hN : n.toNatClampNeg = N') (hbytes : N' * 1 ≤ 536870912) (hcells : cells + 1 ≤ R.cells) (hslots : slots + N' ≤ R.slots) (hdg : decode cc pc = .ok (.newarray .boolean, 2))
    (kk : ∀ (q : Nat) (H1 : Heap), va_P D vwCl (ws ++ [(q, .inl (cy 1, N', .inl (fun _ => 0)))]) H1 → va_D A (ws ++ [(q, .inl (cy 1, N', .inl (fun _ => 0)))]) → va_S A H0 H1 locs → W p l e R s m args below meth c H1 locs (cells + 1) (slots + N') Q (F0 m (pc + 2) ls (.ref q :: rest))) : W p l e R s m args below meth c H locs cells slots Q (F0 m pc ls (.int n :: rest)) := by
  refine va_newa (atype := .boolean) hx hb (hts _ harr) (ty := .boolean) rfl hK hP hD hS hA (a0 := (N', .inl (fun _ => 0))) (fun _ => rfl) hn hN hbytes hcells hslots hdg (fun q cA H1 hK1 hP1 hD1 hS1 => ?_)
  have e : cA = cy 1 := y_cls (k := 1) hK hK1 rfl
  subst e
  exact kk q H1 hP1 hD1 hS1
theorem y_newq {own C : String} {index k : Nat} (hk : (tyl cy)[k]? = some (cy k, .object C)) (hx : p.tables.exec = Jvm.exec) (hb : c.code = cc) (hts : ∀ w ∈ tk_tb, w.before args s = true) (hown : s.vm.findClass own = some m.cls) (hcl : Cond.classLink own index C ∈ tk_tb) (hover : va_AO C s) (hK : va_K D vwCl (tyl cy) s) (hP : va_P D vwCl ws H) (hD : va_D A ws) (hS : va_S A H0 H locs) (hA : ∀ q, H0.size ≤ q → A q) {n : Int32} {N' : Nat} (hn : ¬ n < 0) (hN : n.toNatClampNeg = N') (hbytes : N' * 4 ≤ 536870912) (hcells : cells + 1 ≤ R.cells) (hslots : slots + N' ≤ R.slots) (hdg : decode cc pc = .ok (.anewarray index, 3))
    (kk : ∀ (q : Nat) (H1 : Heap), va_P D vwCl (ws ++ [(q, .inl (cy k, N', rA (fun _ => none)))]) H1 → va_D A (ws ++ [(q, .inl (cy k, N', rA (fun _ => none)))]) → va_S A H0 H1 locs → W p l e R s m args below meth c H1 locs (cells + 1) (slots + N') Q (F0 m (pc + 3) ls (.ref q :: rest))) : W p l e R s m args below meth c H locs cells slots Q (F0 m pc ls (.int n :: rest)) := by
  refine va_newq hx hb hown (hts _ hcl) hover hK hP hD hS hA hn hN hbytes hcells hslots hdg (fun q cA H1 hK1 hP1 hD1 hS1 => ?_)
  have e : cA = cy k := y_cls hK hK1 hk
  subst e
  exact kk q H1 hP1 hD1 hS1
theorem y_pl {l : List Nat} {f : Nat → va_E} {e : va_E} : va_pl l (vr_up f l e) = l.map (fun a => (a, e)) := by
  unfold va_pl
  apply List.map_congr_left
  intro a ha
  rw [vr_up_in ha]
theorem y_mna {own : String} {index : Nat} (hx : p.tables.exec = Jvm.exec) (hb : c.code = cc) (hts : ∀ w ∈ tk_tb, w.before args s = true) (hown : s.vm.findClass own = some m.cls) (hcl : Cond.classLink own index "[[I" ∈ tk_tb) (hover : (Cond.arrayOver (.array .int)).before #[] s = true) (harr : Cond.arrayClass .int ∈ tk_tb) (hK : va_K D vwCl (tyl cy) s) (hP : va_P D vwCl ws H) (hD : va_D A ws) (hS : va_S A H0 H locs) (hA : ∀ q, H0.size ≤ q → A q) {n k : Int32} {N' K' : Nat} (hn : ¬ n < 0) (hk : ¬ k < 0) (hN : n.toNatClampNeg = N') (hM : k.toNatClampNeg = K')
    (hb1 : N' * 4 ≤ 536870912) (hb2 : K' * 4 ≤ 536870912) (hb3 : K' ≤ 536870912) (hcells : cells + (1 + N') ≤ R.cells) (hslots : slots + (N' + N' * K') ≤ R.slots) (hdg : decode cc pc = .ok (.multianewarray index 2, 4))
    (kk : ∀ (q : Nat) (r : Nat → Nat) (H1 : Heap), va_P D vwCl ((ws ++ [(q, .inl (cy 4, N', rA (rO N' r)))]) ++ ((List.range N').map r).map (fun a => (a, .inl (cy 0, K', .inl (fun _ => 0))))) H1 → va_D A ((ws ++ [(q, .inl (cy 4, N', rA (rO N' r)))]) ++ ((List.range N').map r).map (fun a => (a, .inl (cy 0, K', .inl (fun _ => 0))))) → va_S A H0 H1 locs → W p l e R s m args below meth c H1 locs (cells + 1 + N') (slots + N' + N' * K') Q (F0 m (pc + 4) ls (.ref q :: rest))) : W p l e R s m args below meth c H locs cells slots Q (F0 m pc ls (.int k :: .int n :: rest)) := by
  have h0 : ws ++ va_pl [] (fun _ => (.inr (0, []) : va_E)) = ws := List.append_nil ws
  refine va_mna (X := ws) (L := []) (f := fun _ => .inr (0, [])) (ty := .int) (cy := cy 0) (z := (K', .inl (fun _ => 0))) hx hb hown (hts _ hcl) hover (hts _ harr) (hK.2 0 (cy 0, .int) rfl).2 hK (by rw [h0]; exact hP) (by rw [h0]; exact hD) hS hA hn hk hN hM hb1 hb2 hb3 rfl rfl hcells hslots (fun _ => ?_) hdg (fun q r cA H1 hi hnl hK1 hP1 hD1 hS1 => ?_)
  · rw [vp_cell_i, ← arrV_new]
    rfl
  · have e : cA = cy 4 := y_cls (k := 4) hK hK1 rfl
    subst e
    rw [List.nil_append, y_pl] at hP1 hD1
    exact kk q r H1 hP1 hD1 hS1
theorem y_join {X : va_W} {c0 : Nat × va_E} {w1 : va_W} {H1 : Heap} (hP : va_P D vwCl (X ++ [c0]) H) (hD : va_D A (X ++ [c0])) (hk : ∀ q : Nat, q < H.size → ¬ va_A [c0] H.size q → H1[q]? = H[q]?) (hF : ∀ q, va_A [c0] H.size q → A q) (hP1 : va_P D vwCl w1 H1) (hD1 : va_D (va_A [c0] H.size) w1) : va_P D vwCl (X ++ w1) H1 ∧ va_D A (X ++ w1) := by
  have e1 : (List.range X.length).map (fun i => (X ++ [c0])[i]?) = X.map some := by
    apply List.ext_getElem?
    intro j
    by_cases hj : j < X.length
    · rw [List.getElem?_map, List.getElem?_map, List.getElem?_range hj, List.getElem?_eq_getElem hj]
      show some ((X ++ [c0])[j]?) = some (some X[j])
      rw [List.getElem?_append_left hj, List.getElem?_eq_getElem hj]
    · rw [List.getElem?_map, List.getElem?_map, List.getElem?_eq_none (by simp; omega), List.getElem?_eq_none (by omega)]
      rfl
  have e2 : [X.length].map (fun i => (X ++ [c0])[i]?) = [c0].map some := by simp
  have en : ∀ (n : Nat), va_nd (List.range n) = true := by
    intro n
    have : ∀ (l : List Nat), l.Nodup → va_nd l = true := by
      intro l
      induction l with
      | nil => intro _; rfl
      | cons a l ih =>
        intro h
        obtain ⟨h1, h2⟩ := List.nodup_cons.mp h
        simp [va_nd, h1, ih h2]
    exact this _ List.nodup_range
  exact va_join hP hD [X.length] (List.range X.length) e2 e1 (en _) (fun i hi => by simp at hi ⊢; omega) hk hF hP1 hD1
theorem y_free {X : va_W} {b : Nat} {e0 : va_E} (hD : va_D A (X ++ [(b, e0)])) (hS : va_S A H0 H locs) (hA : ∀ q, H0.size ≤ q → A q) : ∀ q, va_A [(b, e0)] H.size q → A q := by
  intro q h
  rcases h with ⟨k, e1, h⟩ | h
  · have h0 : k < 1 := (List.getElem?_eq_some_iff.mp h).1
    rw [show k = 0 by omega] at h
    cases h
    exact hD.2 X.length (b, e0) (by simp)
  · exact hA q (Nat.le_trans hS.1 h)
section YD
variable {y : MethodName} {bytes : ByteArray} {maxL nL n index mc ms : Nat} {rm : Room} {own host : String} {As : List Value} {st0 : List Value} {P : (Nat → Nat → Nat → Nat) → Prop} {ns : List (Nat × Nat × Nat)} {M : Me} {X : va_W} {b : Nat} {e0 : va_E}
theorem y_blind {w : va_W} {sz : Nat} {Bs : List Value} : FrameBlind (va_Pc Bs (Wc D cy w sz)) :=
  fun a U g mk q => by obtain ⟨q0, q1, qP, qK, qD, qX⟩ := q; exact ⟨q0, q1, qP, va_K.moved (u := U) (U := U.calling g mk a) (Vm.Alike.refl U.vm) qK, qD, qX.call⟩
theorem y_pre {Bs : List Value} (hK : va_K D vwCl (tyl cy) s) (hX : Xt A s s.heap) (hP : va_P D vwCl (X ++ [(b, e0)]) H) (hD : va_D A (X ++ [(b, e0)])) (hS : va_S A s.heap H locs) (hA : ∀ q, s.heap.size ≤ q → A q) : ∀ U : State, U.heap = H → s.WarmedH U.vm → va_Pc Bs (Wc D cy [(b, e0)] H.size) Bs.toArray U := by
  intro U hU hw
  refine ⟨rfl, by rw [hU], ?_, va_K.moved hw.alike hK, ⟨fun i j p q hi hj _ => ?_, fun _ _ _ => trivial⟩, hX.go hS (y_free hD hS hA) hU hw⟩
  · intro k q hk
    have h0 : k < 1 := (List.getElem?_eq_some_iff.mp hk).1
    rw [show k = 0 by omega] at hk
    cases hk
    rw [hU]
    exact hP X.length (b, e0) (by simp)
  · have h1 : i < 1 := (List.getElem?_eq_some_iff.mp hi).1
    have h2 : j < 1 := (List.getElem?_eq_some_iff.mp hj).1
    omega
theorem y_ci (hx : p.tables.exec = Jvm.exec) (hb : c.code = cc) (hml : c.maxLocals = nL) (hts : ∀ w ∈ tk_tb, w.before args s = true) (hown : s.vm.findClass own = some m.cls) (hK : va_K D vwCl (tyl cy) s) (hX : Xt A s s.heap) (hP : va_P D vwCl (X ++ [(b, e0)]) H) (hD : va_D A (X ++ [(b, e0)])) (hS : va_S A s.heap H locs) (hA : ∀ q, s.heap.size ≤ q → A q)
    (hC : Ct l y (.code y bytes maxL none :: tk_tb) rm D cy (.ref b :: As) [(b, e0)] P ns M mc ms) (hy : y.name = "<init>")
    (w1 : Cond.methodLink own index y ∈ tk_tb) (w2 : Cond.instanceMethod y ∈ tk_tb) (w4 : Cond.initialized y.cls ∈ tk_tb) (w5 : Cond.code y bytes maxL none ∈ tk_tb) (hnA : As.length = n) (hd : y.cls ≠ "java/lang/invoke/MethodHandle" ∧ y.cls ≠ "java/lang/invoke/VarHandle" ∧ (parseMethodDescriptor y.desc).map (fun d => d.parameters.length) = some n)
    (hrc : rm.cells = mc) (hrs : rm.slots = ms) (hR : rm.frames + 1 ≤ R.frames ∧ 8 + (maxL + 11) + rm.locals ≤ R.locals) (hls : ls.size = nL) (hst : st0 = As.reverse ++ .ref b :: rest) (hroom : 2 * (F0 m pc ls st0).monitorRoom + (rest.map fun v => v.category).sum ≤ 8) (hdg : decode cc pc = .ok (.invokespecial index, 3)) (hf : cells + mc ≤ R.cells ∧ slots + ms ≤ R.slots)
    (kk : ∀ (ad : Nat → Nat → Nat → Nat) (H1 : Heap) (locs1 : List Loc), P ad → va_P D vwCl (X ++ wl cy ad ns M) H1 → va_D A (X ++ wl cy ad ns M) → va_S A s.heap H1 locs1 → W p l e R s m args below meth c H1 locs1 (cells + mc) (slots + ms) Q (F0 m (pc + 3) ls rest)) : W p l e R s m args below meth c H locs cells slots Q (F0 m pc ls st0) := by
  refine va_callv (va_runI (As := As) (rest := rest) ⟨hx, hb, hml, hown, hts⟩ (hC H.size) ⟨callB_of n hts (x_good w5) rfl hrc hrs (hts _ w4) (hts _ w1) hd hR, hy, hts _ w2⟩ ⟨y_blind, y_pre hK hX hP hD hS hA⟩ rfl hnA hls hst hroom hdg hf) hS (fun q _ h => y_free hD hS hA q h) (y_free hD hS hA) (fun u U H1 locs1 ht hvm hw hB hz1 hk1 hS1 => ?_)
  obtain ⟨hP1, hK1, hD1⟩ := hB
  rw [ht] at hP1
  obtain ⟨hP2, hD2⟩ := y_join hP hD hk1 (y_free hD hS hA) hP1 hD1
  exact kk u H1 locs1 hw hP2 hD2 hS1
theorem y_cn (hx : p.tables.exec = Jvm.exec) (hb : c.code = cc) (hml : c.maxLocals = nL) (hts : ∀ w ∈ tk_tb, w.before args s = true) (hown : s.vm.findClass own = some m.cls) (hK : va_K D vwCl (tyl cy) s) (hX : Xt A s s.heap) (hP : va_P D vwCl (X ++ [(b, e0)]) H) (hD : va_D A (X ++ [(b, e0)])) (hS : va_S A s.heap H locs) (hA : ∀ q, s.heap.size ≤ q → A q)
    (hC : Ct l y (.code y bytes maxL none :: tk_tb) rm D cy (.ref b :: As) [(b, e0)] P ns M mc ms) (hy : y.name = "<init>")
    (w1 : va_Nw (.methodLinkNest own index y host) s) (w2 : Cond.instanceMethod y ∈ tk_tb) (w4 : Cond.initialized y.cls ∈ tk_tb) (w5 : Cond.code y bytes maxL none ∈ tk_tb) (hnA : As.length = n) (hd : y.cls ≠ "java/lang/invoke/MethodHandle" ∧ y.cls ≠ "java/lang/invoke/VarHandle" ∧ (parseMethodDescriptor y.desc).map (fun d => d.parameters.length) = some n)
    (hrc : rm.cells = mc) (hrs : rm.slots = ms) (hR : rm.frames + 1 ≤ R.frames ∧ 8 + (maxL + 11) + rm.locals ≤ R.locals) (hls : ls.size = nL) (hst : st0 = As.reverse ++ .ref b :: rest) (hroom : 2 * (F0 m pc ls st0).monitorRoom + (rest.map fun v => v.category).sum ≤ 8) (hdg : decode cc pc = .ok (.invokespecial index, 3)) (hf : cells + mc ≤ R.cells ∧ slots + ms ≤ R.slots)
    (kk : ∀ (ad : Nat → Nat → Nat → Nat) (H1 : Heap) (locs1 : List Loc), P ad → va_P D vwCl (X ++ wl cy ad ns M) H1 → va_D A (X ++ wl cy ad ns M) → va_S A s.heap H1 locs1 → W p l e R s m args below meth c H1 locs1 (cells + mc) (slots + ms) Q (F0 m (pc + 3) ls rest)) : W p l e R s m args below meth c H locs cells slots Q (F0 m pc ls st0) := by
  refine va_callv (va_runIN (host := host) (As := As) (rest := rest) ⟨hx, hb, hml, hown, hts⟩ (hC H.size) ⟨va_cnB n hts (x_good w5) rfl hrc hrs w1 (hts _ w4) hd hR, hy, hts _ w2⟩ ⟨y_blind, y_pre hK hX hP hD hS hA⟩ rfl hnA hls hst hroom hdg hf) hS (fun q _ h => y_free hD hS hA q h) (y_free hD hS hA) (fun u U H1 locs1 ht hvm hw hB hz1 hk1 hS1 => ?_)
  obtain ⟨hP1, hK1, hD1⟩ := hB
  rw [ht] at hP1
  obtain ⟨hP2, hD2⟩ := y_join hP hD hk1 (y_free hD hS hA) hP1 hD1
  exact kk u H1 locs1 hw hP2 hD2 hS1
/-- a constructor that touches nothing (Policy's) -/
def Cn (l : Launch) (y : MethodName) (ws : List Cond) (rm : Room) (As : List Value) : Prop := ∀ sz : Nat, Met l y ws rm (va_Pc As (fun U => U.heap.size = sz)) (va_Qv (fun _ : Unit => True) (fun _ _ => True) (fun q => sz ≤ q)) 0 0 (fun q => sz ≤ q)
theorem y_nn (hx : p.tables.exec = Jvm.exec) (hb : c.code = cc) (hml : c.maxLocals = nL) (hts : ∀ w ∈ tk_tb, w.before args s = true) (hown : s.vm.findClass own = some m.cls) (hP : va_P D vwCl ws H) (hS : va_S A H0 H locs) (hA : ∀ q, H0.size ≤ q → A q)
    (hC : Cn l y (.code y bytes maxL none :: tk_tb) rm (.ref b :: As)) (hy : y.name = "<init>")
    (w1 : va_Nw (.methodLinkNest own index y host) s) (w2 : Cond.instanceMethod y ∈ tk_tb) (w4 : Cond.initialized y.cls ∈ tk_tb) (w5 : Cond.code y bytes maxL none ∈ tk_tb) (hnA : As.length = n) (hd : y.cls ≠ "java/lang/invoke/MethodHandle" ∧ y.cls ≠ "java/lang/invoke/VarHandle" ∧ (parseMethodDescriptor y.desc).map (fun d => d.parameters.length) = some n)
    (hrc : rm.cells = 0) (hrs : rm.slots = 0) (hR : rm.frames + 1 ≤ R.frames ∧ 8 + (maxL + 11) + rm.locals ≤ R.locals) (hls : ls.size = nL) (hst : st0 = As.reverse ++ .ref b :: rest) (hroom : 2 * (F0 m pc ls st0).monitorRoom + (rest.map fun v => v.category).sum ≤ 8) (hdg : decode cc pc = .ok (.invokespecial index, 3)) (hf : cells ≤ R.cells ∧ slots ≤ R.slots)
    (kk : ∀ (H1 : Heap) (locs1 : List Loc), va_P D vwCl ws H1 → va_S A H0 H1 locs1 → W p l e R s m args below meth c H1 locs1 cells slots Q (F0 m (pc + 3) ls rest)) : W p l e R s m args below meth c H locs cells slots Q (F0 m pc ls st0) := by
  refine va_callv (va_runIN (host := host) (As := As) (rest := rest) ⟨hx, hb, hml, hown, hts⟩ (hC H.size) ⟨va_cnB n hts (x_good w5) rfl hrc hrs w1 (hts _ w4) hd hR, hy, hts _ w2⟩ ⟨fun a U g mk q => q, fun U hU _ => ⟨rfl, show U.heap.size = H.size by rw [hU]⟩⟩ rfl hnA hls hst hroom hdg hf) hS (fun q hq h => absurd hq (Nat.not_lt.mpr h)) (fun q h => hA q (Nat.le_trans hS.1 h)) (fun u U H1 locs1 ht hvm hw hB hz1 hk1 hS1 => ?_)
  exact kk H1 locs1 (hP.kept (fun k q hq => hk1 q.1 ((hP k q hq).lt) (Nat.not_le.mpr ((hP k q hq).lt)))) hS1
/-- a static method's call beside cells that it doesn't know -/
theorem y_si {rt : Option FieldType} {ad : Nat → Nat → Nat → Nat} (hx : p.tables.exec = Jvm.exec) (hb : c.code = cc) (hml : c.maxLocals = nL) (hts : ∀ w ∈ tk_tb, w.before args s = true) (hown : s.vm.findClass own = some m.cls) (hK : va_K D vwCl (tyl cy) s) (hP : va_P D vwCl ws H) (hS : va_S A H0 H locs) (hA : ∀ q, H0.size ≤ q → A q) {r : Int32}
    (hC : Ci l y (.code y bytes maxL rt :: tk_tb) rm D cy ad [] As M r M)
    (w1 : Cond.methodLink own index y ∈ tk_tb) (w2 : Cond.static y ∈ tk_tb) (w4 : Cond.initialized y.cls ∈ tk_tb) (w5 : Cond.code y bytes maxL rt ∈ tk_tb) (hnA : As.length = n) (hd : y.cls ≠ "java/lang/invoke/MethodHandle" ∧ y.cls ≠ "java/lang/invoke/VarHandle" ∧ (parseMethodDescriptor y.desc).map (fun d => d.parameters.length) = some n)
    (hrc : rm.cells = 0) (hrs : rm.slots = 0) (hR : rm.frames + 1 ≤ R.frames ∧ 8 + (maxL + 11) + rm.locals ≤ R.locals) (hls : ls.size = nL) (hst : st0 = As.reverse ++ rest) (hroom : 2 * (F0 m pc ls st0).monitorRoom + (rest.map fun v => v.category).sum ≤ 8) (hdg : decode cc pc = .ok (.invokestatic index, 3)) (hf : cells ≤ R.cells ∧ slots ≤ R.slots)
    (kk : ∀ (H1 : Heap) (locs1 : List Loc), va_P D vwCl ws H1 → va_S A H0 H1 locs1 → W p l e R s m args below meth c H1 locs1 cells slots Q (F0 m (pc + 3) ls (.int r :: rest))) : W p l e R s m args below meth c H locs cells slots Q (F0 m pc ls st0) := by
  have hn0 : ∀ q, q < H.size → ¬ Aw ad [] H.size q := fun q hq h => by
    rcases h with ⟨n, hn, -⟩ | h
    · cases hn
    · omega
  have hpre : ∀ U : State, U.heap = H → s.WarmedH U.vm → va_Pc As (fun U => U.heap.size = H.size ∧ Wo D cy ad [] M U) As.toArray U := by
    intro U hU hw
    refine ⟨rfl, by rw [hU], ?_, va_K.moved hw.alike hK, ?_, ?_⟩
    · intro k q h
      simp [wl] at h
    · intro i j p q h
      simp [wl] at h
    · intro k q h
      simp [wl] at h
  refine va_calli (va_runS (As := As) (rest := rest) ⟨hx, hb, hml, hown, hts⟩ (hC H.size) ⟨callB_of n hts (x_good w5) rfl hrc hrs (hts _ w4) (hts _ w1) hd hR, hts _ w2⟩ ⟨x_pre (y := #[]), hpre⟩ rfl hnA hls hst hroom hdg hf) hS (fun q hq h => absurd h (hn0 q hq)) (fun q h => ?_) (fun r2 u U H1 locs1 ht hvm hw hB hz1 hk1 hS1 => ?_)
  · rcases h with ⟨n, hn, -⟩ | h
    · cases hn
    · exact hA q (Nat.le_trans hS.1 h)
  · obtain ⟨rfl, -⟩ := hw
    exact kk H1 locs1 (hP.kept (fun k q hq => hk1 q.1 ((hP k q hq).lt) (hn0 q.1 ((hP k q hq).lt)))) hS1
end YD
end YC
