/-- words of the tables that aren't among the good ones: what is declared, nest mates, casts -/
def xtw : List Cond := [(Jvm.Cond.methodLinkNest "SketchCache$Seats" (3 : Nat) ({ cls := "SketchCache$Policy", name := "<init>", desc := "()V" } : Jvm.MethodName) "SketchCache"), (Jvm.Cond.methodLinkNest "SketchCache$Player" (38 : Nat) ({ cls := "SketchCache$FourRows", name := "<init>", desc := "()V" } : Jvm.MethodName) "SketchCache"), (Jvm.Cond.methodLinkNest "SketchCache$FourRows" (3 : Nat) ({ cls := "SketchCache$Policy", name := "<init>", desc := "()V" } : Jvm.MethodName) "SketchCache"), (Jvm.Cond.methodLinkNest "SketchCache$State" (11 : Nat) ({ cls := "SketchCache$Trace", name := "<init>", desc := "()V" } : Jvm.MethodName) "SketchCache"), (Jvm.Cond.methodLinkNest "SketchCache$State" (20 : Nat) ({ cls := "SketchCache$Climb", name := "<init>", desc := "()V" } : Jvm.MethodName) "SketchCache"), (Jvm.Cond.declares ({ cls := "SketchCache$Policy", name := "begin", desc := "(I)V" } : Jvm.MethodName)), (Jvm.Cond.declares ({ cls := "SketchCache$Policy", name := "asks", desc := "(III)Z" } : Jvm.MethodName)), (Jvm.Cond.declares ({ cls := "SketchCache$Policy", name := "holds", desc := "(I)Z" } : Jvm.MethodName)), (Jvm.Cond.castable "SketchCache$FourRows" "SketchCache$Policy"), (Jvm.Cond.castable "SketchCache$Seats" "SketchCache$Policy")]
def lrF : Nat → Int32 := fun j => match j with
  | 2 => 10
  | 5 => 5
  | _ => 0
def mrF : Nat → Int32 := fun j => match j with
  | 0 => 1
  | 1 => 1
  | 2 => 1000
  | 3 => 2
  | 4 => 20
  | _ => 500
/-- what a state has beside its world: those words, the array classes, the two constant rows -/
def Xt (A : Nat → Prop) (U : State) (H : Heap) : Prop := (∀ w ∈ xtw, va_Nw w U) ∧ (va_AO "SketchCache$State" U ∧ va_AO "SketchCache$Policy" U ∧ (Cond.arrayOver (.array .int)).before #[] U = true) ∧
  (∃ t : Nat, va_Z "SketchCache" "LEAST_RULE" "[I" (.ref t) A U H ∧ va_T .int t 6 (fun j => .int (lrF j)) A U H) ∧ (∃ t : Nat, va_Z "SketchCache" "MOST_RULE" "[I" (.ref t) A U H ∧ va_T .int t 6 (fun j => .int (mrF j)) A U H)
theorem xtw_warm {s U : State} (hW : s.WarmedH U.vm) (h : ∀ w ∈ xtw, va_Nw w s) : ∀ w ∈ xtw, va_Nw w U := by
  intro w hw
  have hz := h w hw
  simp only [xtw, List.mem_cons, List.not_mem_nil, or_false] at hw
  rcases hw with rfl | rfl | rfl | rfl | rfl | rfl | rfl | rfl | rfl | rfl
  · exact va_Nw.warmM hW hz
  · exact va_Nw.warmM hW hz
  · exact va_Nw.warmM hW hz
  · exact va_Nw.warmM hW hz
  · exact va_Nw.warmM hW hz
  · exact va_Nw.warmD hW hz
  · exact va_Nw.warmD hW hz
  · exact va_Nw.warmD hW hz
  · exact va_Nw.warmC hW hz
  · exact va_Nw.warmC hW hz
theorem xtw_same {u U : State} (e : u.vm = U.vm) (h : ∀ w ∈ xtw, va_Nw w u) : ∀ w ∈ xtw, va_Nw w U := by
  intro w hw
  have hz := h w hw
  simp only [xtw, List.mem_cons, List.not_mem_nil, or_false] at hw
  rcases hw with rfl | rfl | rfl | rfl | rfl | rfl | rfl | rfl | rfl | rfl
  · exact va_Nw.same rfl e hz
  · exact va_Nw.same rfl e hz
  · exact va_Nw.same rfl e hz
  · exact va_Nw.same rfl e hz
  · exact va_Nw.same rfl e hz
  · exact va_Nw.same rfl e hz
  · exact va_Nw.same rfl e hz
  · exact va_Nw.same rfl e hz
  · exact va_Nw.same rfl e hz
  · exact va_Nw.same rfl e hz
theorem xw_39 {A : Nat → Prop} {U : State} {H : Heap} (h : Xt A U H) : va_Nw (Jvm.Cond.methodLinkNest "SketchCache$Seats" (3 : Nat) ({ cls := "SketchCache$Policy", name := "<init>", desc := "()V" } : Jvm.MethodName) "SketchCache") U := h.1 _ (by simp [xtw])
theorem xw_77 {A : Nat → Prop} {U : State} {H : Heap} (h : Xt A U H) : va_Nw (Jvm.Cond.methodLinkNest "SketchCache$Player" (38 : Nat) ({ cls := "SketchCache$FourRows", name := "<init>", desc := "()V" } : Jvm.MethodName) "SketchCache") U := h.1 _ (by simp [xtw])
theorem xw_80 {A : Nat → Prop} {U : State} {H : Heap} (h : Xt A U H) : va_Nw (Jvm.Cond.methodLinkNest "SketchCache$FourRows" (3 : Nat) ({ cls := "SketchCache$Policy", name := "<init>", desc := "()V" } : Jvm.MethodName) "SketchCache") U := h.1 _ (by simp [xtw])
theorem xw_159 {A : Nat → Prop} {U : State} {H : Heap} (h : Xt A U H) : va_Nw (Jvm.Cond.methodLinkNest "SketchCache$State" (11 : Nat) ({ cls := "SketchCache$Trace", name := "<init>", desc := "()V" } : Jvm.MethodName) "SketchCache") U := h.1 _ (by simp [xtw])
theorem xw_177 {A : Nat → Prop} {U : State} {H : Heap} (h : Xt A U H) : va_Nw (Jvm.Cond.methodLinkNest "SketchCache$State" (20 : Nat) ({ cls := "SketchCache$Climb", name := "<init>", desc := "()V" } : Jvm.MethodName) "SketchCache") U := h.1 _ (by simp [xtw])
theorem xw_574 {A : Nat → Prop} {U : State} {H : Heap} (h : Xt A U H) : va_Nw (Jvm.Cond.declares ({ cls := "SketchCache$Policy", name := "begin", desc := "(I)V" } : Jvm.MethodName)) U := h.1 _ (by simp [xtw])
theorem xw_589 {A : Nat → Prop} {U : State} {H : Heap} (h : Xt A U H) : va_Nw (Jvm.Cond.declares ({ cls := "SketchCache$Policy", name := "asks", desc := "(III)Z" } : Jvm.MethodName)) U := h.1 _ (by simp [xtw])
theorem xw_650 {A : Nat → Prop} {U : State} {H : Heap} (h : Xt A U H) : va_Nw (Jvm.Cond.declares ({ cls := "SketchCache$Policy", name := "holds", desc := "(I)Z" } : Jvm.MethodName)) U := h.1 _ (by simp [xtw])
theorem xw_1003 {A : Nat → Prop} {U : State} {H : Heap} (h : Xt A U H) : va_Nw (Jvm.Cond.castable "SketchCache$FourRows" "SketchCache$Policy") U := h.1 _ (by simp [xtw])
theorem xw_1004 {A : Nat → Prop} {U : State} {H : Heap} (h : Xt A U H) : va_Nw (Jvm.Cond.castable "SketchCache$Seats" "SketchCache$Policy") U := h.1 _ (by simp [xtw])
theorem x_over {ty : FieldType} {u U : State} {B C : Array Value} (e : u.vm.Alike U.vm) (h : (Cond.arrayOver ty).before B u = true) : (Cond.arrayOver ty).before C U = true := by
  have h1 : (Cond.arrayOver ty).before C (u.setVm U.vm) = true := by rw [Cond.arrayOver_setVmC e]; exact h
  exact h1
theorem Xt.go {A B : Nat → Prop} {s U : State} {H : Heap} {locs : List Loc} (hX : Xt A s s.heap) (hS : va_S A s.heap H locs) (hAB : ∀ q, B q → A q) (hU : U.heap = H) (hW : s.WarmedH U.vm) : Xt B U U.heap := by
  obtain ⟨h1, ⟨h2, h3, h4⟩, ⟨t1, z1, y1⟩, t2, z2, y2⟩ := hX
  have hq : ∀ a : Nat, a < s.heap.size → ¬ A a → U.heap[a]? = s.heap[a]? := fun a ha hn => by rw [hU]; exact hS.2.1 a ha hn
  exact ⟨xtw_warm hW h1, ⟨va_AO.moved hW.alike h2, va_AO.moved hW.alike h3, x_over hW.alike h4⟩, ⟨t1, ((z1.kept hq).narrow hAB).moved hW.alike, ((y1.kept hq).narrow hAB).moved hW.alike⟩, t2, ((z2.kept hq).narrow hAB).moved hW.alike, ((y2.kept hq).narrow hAB).moved hW.alike⟩
theorem Xt.call {A : Nat → Prop} {U : State} {g : JFrame} {mk : MethodId} {a : Array Value} (h : Xt A U U.heap) : Xt A (U.calling g mk a) (U.calling g mk a).heap := by
  obtain ⟨h1, ⟨h2, h3, h4⟩, ⟨t1, z1, y1⟩, t2, z2, y2⟩ := h
  have e : U.vm.Alike (U.calling g mk a).vm := Vm.Alike.refl U.vm
  exact ⟨xtw_same (u := U) rfl h1, ⟨va_AO.moved e h2, va_AO.moved e h3, x_over e h4⟩, ⟨t1, z1.moved e, y1.moved e⟩, t2, z2.moved e, y2.moved e⟩
def CxI (l : Launch) (y : MethodName) (ws : List Cond) (rm : Room) (D : va_G) (cy : Nat → ClassId) (ad : Nat → Nat → Nat → Nat) (ns : List (Nat × Nat × Nat)) (As : List Value) (M : Me) (r : Int32) (M2 : Me) : Prop :=
  ∀ sz : Nat, Met l y ws rm (va_Pc As (fun U => U.heap.size = sz ∧ Wo D cy ad ns M U ∧ Xt (Aw ad ns sz) U U.heap)) (va_Qi (fun (r2 : Int32) (N : Me) => r2 = r ∧ N = M2) (fun N U => Wo D cy ad ns N U) (Aw ad ns sz)) 0 0 (Aw ad ns sz)
def CxV (l : Launch) (y : MethodName) (ws : List Cond) (rm : Room) (D : va_G) (cy : Nat → ClassId) (ad : Nat → Nat → Nat → Nat) (ns : List (Nat × Nat × Nat)) (As : List Value) (M : Me) (M2 : Me) : Prop :=
  ∀ sz : Nat, Met l y ws rm (va_Pc As (fun U => U.heap.size = sz ∧ Wo D cy ad ns M U ∧ Xt (Aw ad ns sz) U U.heap)) (va_Qv (fun (N : Me) => N = M2) (fun N U => Wo D cy ad ns N U) (Aw ad ns sz)) 0 0 (Aw ad ns sz)
theorem CxI.of {l : Launch} {y : MethodName} {cc : ByteArray} {maxL : Nat} {rt : Option FieldType} {rm : Room} {D : va_G} {cy : Nat → ClassId} {ad : Nat → Nat → Nat → Nat} {ns : List (Nat × Nat × Nat)} {As : List Value} {M : Me} {r : Int32} {M2 : Me} (hy : plainName y.cls = true) (hlen : (lg_sl As).length ≤ maxL)
    (body : ∀ (p : Program) (e : Env) (s : State) (m : MethodId) (below : List Frame) (meth : Method) (c : Code) (ls : Array Slot), En p s m meth c y cc maxL rt D cy ad ns As → Xt (Aw ad ns s.heap.size) s s.heap → Wl D cy ad ns (Aw ad ns s.heap.size) s.heap M s.heap [] → lv_has ls maxL (lv_args 0 As) → W p l e rm s m As.toArray below meth c s.heap [] 0 0 (QI below D cy ad ns As s r M2) (F0 m 0 ls [])) :
    CxI l y (.code y cc maxL rt :: tk_tb) rm D cy ad ns As M r M2 := by
  intro sz
  refine Met.ofW (cc := cc) (maxL := maxL) (ret := rt) hy rfl ?_
  intro p e s m args below meth c s₁ B hml hv
  obtain ⟨rfl, hsz, ⟨hP, hK, hD0⟩, hX⟩ := hv
  subst hsz
  have hts := atoms_spec (ws := Cond.code y cc maxL rt :: tk_tb) B.pre
  have hl := lv_entry As (n := maxL) hlen
  rw [lg_entry_eq]
  exact body p e s m below meth c _ ⟨B.exec, B.bytes, B.returns, hml, findClass_of_methodNamed B.named, fun w h => hts w (List.mem_cons_of_mem _ h), B.notSynchronized, hK⟩ hX ⟨hP, wl_apart hD0 (fun n hn => Or.inl ⟨n, hn, rfl⟩), va_S.rf⟩ hl
theorem CxV.of {l : Launch} {y : MethodName} {cc : ByteArray} {maxL : Nat} {rm : Room} {D : va_G} {cy : Nat → ClassId} {ad : Nat → Nat → Nat → Nat} {ns : List (Nat × Nat × Nat)} {As : List Value} {M : Me} {M2 : Me} (hy : plainName y.cls = true) (hlen : (lg_sl As).length ≤ maxL)
    (body : ∀ (p : Program) (e : Env) (s : State) (m : MethodId) (below : List Frame) (meth : Method) (c : Code) (ls : Array Slot), En p s m meth c y cc maxL none D cy ad ns As → Xt (Aw ad ns s.heap.size) s s.heap → Wl D cy ad ns (Aw ad ns s.heap.size) s.heap M s.heap [] → lv_has ls maxL (lv_args 0 As) → W p l e rm s m As.toArray below meth c s.heap [] 0 0 (QV below D cy ad ns As s M2) (F0 m 0 ls [])) :
    CxV l y (.code y cc maxL none :: tk_tb) rm D cy ad ns As M M2 := by
  intro sz
  refine Met.ofW (cc := cc) (maxL := maxL) (ret := none) hy rfl ?_
  intro p e s m args below meth c s₁ B hml hv
  obtain ⟨rfl, hsz, ⟨hP, hK, hD0⟩, hX⟩ := hv
  subst hsz
  have hts := atoms_spec (ws := Cond.code y cc maxL none :: tk_tb) B.pre
  have hl := lv_entry As (n := maxL) hlen
  rw [lg_entry_eq]
  exact body p e s m below meth c _ ⟨B.exec, B.bytes, B.returns, hml, findClass_of_methodNamed B.named, fun w h => hts w (List.mem_cons_of_mem _ h), B.notSynchronized, hK⟩ hX ⟨hP, wl_apart hD0 (fun n hn => Or.inl ⟨n, hn, rfl⟩), va_S.rf⟩ hl
section XX
variable {p : Program} {l : Launch} {e : Env} {R : Room} {s : State} {m : MethodId} {args : Array Value} {below : List Frame} {meth : Method} {c : Code} {H : Heap} {locs : List Loc} {cells slots : Nat} {Q : State → Prop}
variable {cc : ByteArray} {pc : Nat} {ls : Array Slot} {rest : List Value} {D : va_G} {cy : Nat → ClassId} {ad : Nat → Nat → Nat → Nat} {ns : List (Nat × Nat × Nat)} {A : Nat → Prop} {H0 : Heap} {M : Me}
theorem x_aalp (hx : p.tables.exec = Jvm.exec) (hb : c.code = cc) (hK : va_K D vwCl (tyl cy) s) (hW : Wl D cy ad ns A H0 M H locs) {t i o n : Nat} {x : Nat → Int32} {f : Nat → Nat} {j : Int32} (hn : (t, i, o) ∈ ns) (hM : M t i o = x) (hct : ctA cy ad t i o x = .inl (cy 2, n, rA (rO n f))) (hin : vp_in j n) (hdg : decode cc pc = .ok (.aaload, 1))
    (kk : W p l e R s m args below meth c H locs cells slots Q (F0 m (pc + 1) ls (.ref (f j.toNatClampNeg) :: rest))) : W p l e R s m args below meth c H locs cells slots Q (F0 m pc ls (.int j :: .ref (ad t i o) :: rest)) := by
  obtain ⟨q, h⟩ := wl_get (cy := cy) (ad := ad) (M := M) hn
  rw [hM, hct] at h
  have hlt : j.toNatClampNeg < n := Nat.not_le.mp fun z => hin (Or.inr z)
  have e : Value.ref (f j.toNatClampNeg) = va_rf (rO n f j.toNatClampNeg) := by simp [rO, hlt, va_rf]
  rw [e] at kk
  exact va_aldq hx hb hK hW.1 q 2 h rfl hin hdg kk
theorem x_preX {sz : Nat} {As : List Value} : FrameBlind (va_Pc As (fun U => U.heap.size = sz ∧ Wo D cy ad ns M U ∧ Xt (Aw ad ns sz) U U.heap)) :=
  fun a U g mk q => by obtain ⟨q0, q1, ⟨qP, qK, qD⟩, qX⟩ := q; exact ⟨q0, q1, ⟨qP, va_K.moved (u := U) (U := U.calling g mk a) (Vm.Alike.refl U.vm) qK, qD⟩, qX.call⟩
theorem x_startX (hK : va_K D vwCl (tyl cy) s) (hX : Xt A s s.heap) (hW : Wl D cy ad ns A s.heap M H locs) (hA : ∀ q, s.heap.size ≤ q → A q) {As : List Value} : ∀ U : State, U.heap = H → s.WarmedH U.vm → va_Pc As (fun U => U.heap.size = H.size ∧ Wo D cy ad ns M U ∧ Xt (Aw ad ns H.size) U U.heap) As.toArray U :=
  fun U hU hw => ⟨rfl, by rw [hU], ⟨by rw [hU]; exact hW.1, va_K.moved hw.alike hK, hW.2.1.weaken (fun _ _ _ _ => trivial)⟩, hX.go hW.2.2 (x_aw hW hA) hU hw⟩
section XY
variable {x y : MethodName} {bytes : ByteArray} {maxL nL n index : Nat} {rm : Room} {own : String} {As : List Value} {st0 : List Value} {M2 : Me}
theorem x_vxi {rt : Option FieldType} (hx : p.tables.exec = Jvm.exec) (hb : c.code = cc) (hml : c.maxLocals = nL) (hts : ∀ w ∈ tk_tb, w.before args s = true) (hown : s.vm.findClass own = some m.cls) (hK : va_K D vwCl (tyl cy) s) (hX : Xt A s s.heap) (hW : Wl D cy ad ns A s.heap M H locs) (hA : ∀ q, s.heap.size ≤ q → A q) {t i ci : Nat} {fs : List Value} {z : Nat → Int32} {cq : vw_C} {r : Int32}
    (hC : CxI l y (.code y bytes maxL rt :: tk_tb) rm D cy ad ns (.ref (ad t i 0) :: As) M r M2) (hn : (t, i, 0) ∈ ns) (hM : M t i 0 = z) (hct : ctA cy ad t i 0 z = .inr (ci, fs)) (hc : vwCl[ci]? = some cq) (hcq : cq.1 = y.cls)
    (w1 : Cond.methodLink own index y ∈ tk_tb) (w2 : Cond.instanceMethod y ∈ tk_tb) (w3 : Cond.selects y.cls y y ∈ tk_tb) (w4 : Cond.initialized y.cls ∈ tk_tb) (w5 : Cond.code y bytes maxL rt ∈ tk_tb) (hnA : As.length = n) (hd : y.cls ≠ "java/lang/invoke/MethodHandle" ∧ y.cls ≠ "java/lang/invoke/VarHandle" ∧ (parseMethodDescriptor y.desc).map (fun d => d.parameters.length) = some n)
    (hrc : rm.cells = 0) (hrs : rm.slots = 0) (hR : rm.frames + 1 ≤ R.frames ∧ 8 + (maxL + 11) + rm.locals ≤ R.locals) (hls : ls.size = nL) (hst : st0 = As.reverse ++ .ref (ad t i 0) :: rest) (hroom : 2 * (F0 m pc ls st0).monitorRoom + (rest.map fun v => v.category).sum ≤ 8) (hdg : decode cc pc = .ok (.invokevirtual index, 3)) (hf : cells ≤ R.cells ∧ slots ≤ R.slots)
    (kk : ∀ (H1 : Heap) (locs1 : List Loc), Wl D cy ad ns A s.heap M2 H1 locs1 → W p l e R s m args below meth c H1 locs1 cells slots Q (F0 m (pc + 3) ls (.int r :: rest))) : W p l e R s m args below meth c H locs cells slots Q (F0 m pc ls st0) := by
  obtain ⟨q, h⟩ := wl_get (cy := cy) (ad := ad) (M := M) hn
  rw [hM, hct] at h
  have hrv := va_recv hK hW.1 hc h
  rw [hcq] at hrv
  refine va_calli (va_runV (As := As) (rest := rest) ⟨hx, hb, hml, hown, hts⟩ (hC H.size) ⟨callB_of n hts (x_good w5) rfl hrc hrs (hts _ w4) (hts _ w1) hd hR, hts _ w2, hts _ w3⟩ ⟨x_preX, hrv, x_startX hK hX hW hA⟩ rfl hnA hls hst hroom hdg hf) hW.2.2 (fun q _ h => x_aw hW hA q h) (x_aw hW hA) (fun r2 u U H1 locs1 ht hvm hw hB hz1 hk1 hS => ?_)
  obtain ⟨rfl, rfl⟩ := hw
  exact kk H1 locs1 (x_back hW ht hB hS)
theorem x_vxv (hx : p.tables.exec = Jvm.exec) (hb : c.code = cc) (hml : c.maxLocals = nL) (hts : ∀ w ∈ tk_tb, w.before args s = true) (hown : s.vm.findClass own = some m.cls) (hK : va_K D vwCl (tyl cy) s) (hX : Xt A s s.heap) (hW : Wl D cy ad ns A s.heap M H locs) (hA : ∀ q, s.heap.size ≤ q → A q) {t i ci : Nat} {fs : List Value} {z : Nat → Int32} {cq : vw_C}
    (hC : CxV l y (.code y bytes maxL none :: tk_tb) rm D cy ad ns (.ref (ad t i 0) :: As) M M2) (hn : (t, i, 0) ∈ ns) (hM : M t i 0 = z) (hct : ctA cy ad t i 0 z = .inr (ci, fs)) (hc : vwCl[ci]? = some cq) (hcq : cq.1 = y.cls)
    (w1 : Cond.methodLink own index y ∈ tk_tb) (w2 : Cond.instanceMethod y ∈ tk_tb) (w3 : Cond.selects y.cls y y ∈ tk_tb) (w4 : Cond.initialized y.cls ∈ tk_tb) (w5 : Cond.code y bytes maxL none ∈ tk_tb) (hnA : As.length = n) (hd : y.cls ≠ "java/lang/invoke/MethodHandle" ∧ y.cls ≠ "java/lang/invoke/VarHandle" ∧ (parseMethodDescriptor y.desc).map (fun d => d.parameters.length) = some n)
    (hrc : rm.cells = 0) (hrs : rm.slots = 0) (hR : rm.frames + 1 ≤ R.frames ∧ 8 + (maxL + 11) + rm.locals ≤ R.locals) (hls : ls.size = nL) (hst : st0 = As.reverse ++ .ref (ad t i 0) :: rest) (hroom : 2 * (F0 m pc ls st0).monitorRoom + (rest.map fun v => v.category).sum ≤ 8) (hdg : decode cc pc = .ok (.invokevirtual index, 3)) (hf : cells ≤ R.cells ∧ slots ≤ R.slots)
    (kk : ∀ (H1 : Heap) (locs1 : List Loc), Wl D cy ad ns A s.heap M2 H1 locs1 → W p l e R s m args below meth c H1 locs1 cells slots Q (F0 m (pc + 3) ls rest)) : W p l e R s m args below meth c H locs cells slots Q (F0 m pc ls st0) := by
  obtain ⟨q, h⟩ := wl_get (cy := cy) (ad := ad) (M := M) hn
  rw [hM, hct] at h
  have hrv := va_recv hK hW.1 hc h
  rw [hcq] at hrv
  refine va_callv (va_runV (As := As) (rest := rest) ⟨hx, hb, hml, hown, hts⟩ (hC H.size) ⟨callB_of n hts (x_good w5) rfl hrc hrs (hts _ w4) (hts _ w1) hd hR, hts _ w2, hts _ w3⟩ ⟨x_preX, hrv, x_startX hK hX hW hA⟩ rfl hnA hls hst hroom hdg hf) hW.2.2 (fun q _ h => x_aw hW hA q h) (x_aw hW hA) (fun u U H1 locs1 ht hvm hw hB hz1 hk1 hS => ?_)
  subst hw
  exact kk H1 locs1 (x_back hW ht hB hS)
theorem x_goodU {rt : Option FieldType} (w1 : Cond.methodLink own index x ∈ tk_tb) (w6 : Cond.sameMethod x.cls x.cls x.name x.desc ∈ tk_tb) (w3 : Cond.selects y.cls x y ∈ tk_tb) (w2 : Cond.instanceMethod y ∈ tk_tb) (w4 : Cond.initialized y.cls ∈ tk_tb) (w5 : Cond.code y bytes maxL rt ∈ tk_tb) : GoodIn tk_tb (va_wsU own index y.cls x.cls x y (.code y bytes maxL rt :: tk_tb)) := by
  intro w hw
  have h0 : ∀ v ∈ tk_tb, v ∈ tk_tb ∧ ((v.onTables && v.keeps) = true ∨ ∃ ty, v = .arrayClass ty) := fun v hv => ⟨hv, (tb_good v hv).2⟩
  unfold va_wsU at hw
  rcases List.mem_append.mp hw with hw | hw
  · simp only [List.mem_cons, List.not_mem_nil, or_false] at hw
    rcases hw with rfl | rfl | rfl | rfl | rfl
    · exact h0 _ w1
    · exact h0 _ w6
    · exact h0 _ w3
    · exact h0 _ w2
    · exact h0 _ w4
  · exact x_good w5 w hw
theorem x_ui {rt : Option FieldType} (hx : p.tables.exec = Jvm.exec) (hb : c.code = cc) (hml : c.maxLocals = nL) (hts : ∀ w ∈ tk_tb, w.before args s = true) (hown : s.vm.findClass own = some m.cls) (hK : va_K D vwCl (tyl cy) s) (hz : va_Nw (.declares ⟨x.cls, x.name, x.desc⟩) s) (hW : Wl D cy ad ns A H0 M H locs) (hA : ∀ q, H0.size ≤ q → A q) {t i ci : Nat} {fs : List Value} {z : Nat → Int32} {cq : vw_C} {r : Int32}
    (hC : Ci l y (.code y bytes maxL rt :: tk_tb) rm D cy ad ns (.ref (ad t i 0) :: As) M r M2) (hn : (t, i, 0) ∈ ns) (hM : M t i 0 = z) (hct : ctA cy ad t i 0 z = .inr (ci, fs)) (hc : vwCl[ci]? = some cq) (hcq : cq.1 = y.cls)
    (w1 : Cond.methodLink own index x ∈ tk_tb) (w6 : Cond.sameMethod x.cls x.cls x.name x.desc ∈ tk_tb) (w3 : Cond.selects y.cls x y ∈ tk_tb) (w2 : Cond.instanceMethod y ∈ tk_tb) (w4 : Cond.initialized y.cls ∈ tk_tb) (w5 : Cond.code y bytes maxL rt ∈ tk_tb) (hnA : As.length = n) (hd : x.cls ≠ "java/lang/invoke/MethodHandle" ∧ x.cls ≠ "java/lang/invoke/VarHandle" ∧ (parseMethodDescriptor x.desc).map (fun d => d.parameters.length) = some n)
    (hrc : rm.cells = 0) (hrs : rm.slots = 0) (hR : rm.frames + 1 ≤ R.frames ∧ 8 + (maxL + 11) + rm.locals ≤ R.locals) (hls : ls.size = nL) (hst : st0 = As.reverse ++ .ref (ad t i 0) :: rest) (hroom : 2 * (F0 m pc ls st0).monitorRoom + (rest.map fun v => v.category).sum ≤ 8) (hdg : decode cc pc = .ok (.invokevirtual index, 3)) (hf : cells ≤ R.cells ∧ slots ≤ R.slots)
    (kk : ∀ (H1 : Heap) (locs1 : List Loc), Wl D cy ad ns A H0 M2 H1 locs1 → W p l e R s m args below meth c H1 locs1 cells slots Q (F0 m (pc + 3) ls (.int r :: rest))) : W p l e R s m args below meth c H locs cells slots Q (F0 m pc ls st0) := by
  obtain ⟨q, h⟩ := wl_get (cy := cy) (ad := ad) (M := M) hn
  rw [hM, hct] at h
  have hrv := va_recv hK hW.1 hc h
  rw [hcq] at hrv
  refine va_calli (va_runU (As := As) (rest := rest) ⟨hx, hb, hml, hown, hts⟩ (hC H.size) (va_cwA n hts (x_goodU w1 w6 w3 w2 w4 w5) rfl hrc hrs hz hd hR) ⟨x_pre (y := #[]), hrv, x_start hK hW⟩ rfl hnA hls hst hroom hdg hf) hW.2.2 (fun q _ h => x_aw hW hA q h) (x_aw hW hA) (fun r2 u U H1 locs1 ht hvm hw hB hz1 hk1 hS => ?_)
  obtain ⟨rfl, rfl⟩ := hw
  exact kk H1 locs1 (x_back hW ht hB hS)
theorem x_uv (hx : p.tables.exec = Jvm.exec) (hb : c.code = cc) (hml : c.maxLocals = nL) (hts : ∀ w ∈ tk_tb, w.before args s = true) (hown : s.vm.findClass own = some m.cls) (hK : va_K D vwCl (tyl cy) s) (hz : va_Nw (.declares ⟨x.cls, x.name, x.desc⟩) s) (hW : Wl D cy ad ns A H0 M H locs) (hA : ∀ q, H0.size ≤ q → A q) {t i ci : Nat} {fs : List Value} {z : Nat → Int32} {cq : vw_C}
    (hC : Cv l y (.code y bytes maxL none :: tk_tb) rm D cy ad ns (.ref (ad t i 0) :: As) M M2) (hn : (t, i, 0) ∈ ns) (hM : M t i 0 = z) (hct : ctA cy ad t i 0 z = .inr (ci, fs)) (hc : vwCl[ci]? = some cq) (hcq : cq.1 = y.cls)
    (w1 : Cond.methodLink own index x ∈ tk_tb) (w6 : Cond.sameMethod x.cls x.cls x.name x.desc ∈ tk_tb) (w3 : Cond.selects y.cls x y ∈ tk_tb) (w2 : Cond.instanceMethod y ∈ tk_tb) (w4 : Cond.initialized y.cls ∈ tk_tb) (w5 : Cond.code y bytes maxL none ∈ tk_tb) (hnA : As.length = n) (hd : x.cls ≠ "java/lang/invoke/MethodHandle" ∧ x.cls ≠ "java/lang/invoke/VarHandle" ∧ (parseMethodDescriptor x.desc).map (fun d => d.parameters.length) = some n)
    (hrc : rm.cells = 0) (hrs : rm.slots = 0) (hR : rm.frames + 1 ≤ R.frames ∧ 8 + (maxL + 11) + rm.locals ≤ R.locals) (hls : ls.size = nL) (hst : st0 = As.reverse ++ .ref (ad t i 0) :: rest) (hroom : 2 * (F0 m pc ls st0).monitorRoom + (rest.map fun v => v.category).sum ≤ 8) (hdg : decode cc pc = .ok (.invokevirtual index, 3)) (hf : cells ≤ R.cells ∧ slots ≤ R.slots)
    (kk : ∀ (H1 : Heap) (locs1 : List Loc), Wl D cy ad ns A H0 M2 H1 locs1 → W p l e R s m args below meth c H1 locs1 cells slots Q (F0 m (pc + 3) ls rest)) : W p l e R s m args below meth c H locs cells slots Q (F0 m pc ls st0) := by
  obtain ⟨q, h⟩ := wl_get (cy := cy) (ad := ad) (M := M) hn
  rw [hM, hct] at h
  have hrv := va_recv hK hW.1 hc h
  rw [hcq] at hrv
  refine va_callv (va_runU (As := As) (rest := rest) ⟨hx, hb, hml, hown, hts⟩ (hC H.size) (va_cwA n hts (x_goodU w1 w6 w3 w2 w4 w5) rfl hrc hrs hz hd hR) ⟨x_pre (y := #[]), hrv, x_start hK hW⟩ rfl hnA hls hst hroom hdg hf) hW.2.2 (fun q _ h => x_aw hW hA q h) (x_aw hW hA) (fun u U H1 locs1 ht hvm hw hB hz1 hk1 hS => ?_)
  subst hw
  exact kk H1 locs1 (x_back hW ht hB hS)
end XY
end XX
