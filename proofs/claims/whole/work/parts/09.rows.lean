theorem tb_good : ∀ w ∈ tk_tb, w ∈ lw_tbl ∧ ((w.onTables && w.keeps) = true ∨ ∃ ty, w = .arrayClass ty) := tk_good
section XR
variable {p : Program} {l : Launch} {e : Env} {R : Room} {s : State} {m : MethodId} {args : Array Value} {below : List Frame} {meth : Method} {c : Code} {H : Heap} {locs : List Loc} {cells slots : Nat} {Q : State → Prop}
variable {cc : ByteArray} {pc : Nat} {ls : Array Slot} {rest : List Value} {D : va_G} {cy : Nat → ClassId} {ad : Nat → Nat → Nat → Nat} {ns : List (Nat × Nat × Nat)} {A : Nat → Prop} {H0 : Heap} {M : Me}
theorem x_get (hx : p.tables.exec = Jvm.exec) (hb : c.code = cc) (hts : ∀ w ∈ tk_tb, w.before args s = true) {own C : String} (hown : s.vm.findClass own = some m.cls) (hK : va_K D vwCl (tyl cy) s) (hW : Wl D cy ad ns A H0 M H locs) {T : u_T} {N ci index t i o : Nat} {fs : List Value} {v : Value} {x : Nat → Int32}
    (hn : (t, i, o) ∈ ns) (hM : M t i o = x) (hct : ctA cy ad t i o x = .inr (ci, fs)) (hc : vwCl[ci]? = some (C, T, N)) (hin : ∀ w ∈ u_ws C T N, w ∈ tk_tb) (k : Nat) (hk : k < N) (hq : Cond.fieldLink own index (T k).1 (T k).2.1 (T k).2.2.1 ∈ tk_tb) (hv : fs[k]? = some v) (hdg : decode cc pc = .ok (.getfield index, 3))
    (kk : W p l e R s m args below meth c H locs cells slots Q (F0 m (pc + 3) ls (v :: rest))) : W p l e R s m args below meth c H locs cells slots Q (F0 m pc ls (.ref (ad t i o) :: rest)) := by
  obtain ⟨q, h⟩ := wl_get (cy := cy) (ad := ad) (M := M) hn
  rw [hM, hct] at h
  exact va_get hx hb hts hin hown hK hW.1 q h hc k hk (hts _ hq) (fun _ h9 => h9) hv hdg kk
theorem x_put (hx : p.tables.exec = Jvm.exec) (hb : c.code = cc) (hts : ∀ w ∈ tk_tb, w.before args s = true) {own C : String} (hown : s.vm.findClass own = some m.cls) (hK : va_K D vwCl (tyl cy) s) (hW : Wl D cy ad ns A H0 M H locs) {T : u_T} {N ci index t i o : Nat} {fs : List Value} {v : Int32} {x : Nat → Int32} {M2 : Me}
    (hn : (t, i, o) ∈ ns) (hM : M t i o = x) (hct : ctA cy ad t i o x = .inr (ci, fs)) (hc : vwCl[ci]? = some (C, T, N)) (hin : ∀ w ∈ u_ws C T N, w ∈ tk_tb) (ty0 : Nat → FieldType) (hty : ∀ k, k < N → parseFieldDescriptor (T k).2.2.1 = some (ty0 k)) (hnm : ∀ a, a < N → ∀ b, b < N → a ≠ b → (T a).2.1 ≠ (T b).2.1)
    (k : Nat) (hk : k < N) (hq : Cond.fieldLink own index (T k).1 (T k).2.1 (T k).2.2.1 ∈ tk_tb) (hfin : (T k).2.2.2 = false) (hd : ty0 k = .int) (hl : k < fs.length) (hset : ctA cy ad t i o (upd x k v) = .inr (ci, fs.set k (.int v))) (hM2 : uC M t i o (upd x k v) = M2) (hdg : decode cc pc = .ok (.putfield index, 3))
    (kk : ∀ (H1 : Heap) (locs1 : List Loc), Wl D cy ad ns A H0 M2 H1 locs1 → W p l e R s m args below meth c H1 locs1 cells slots Q (F0 m (pc + 3) ls rest)) : W p l e R s m args below meth c H locs cells slots Q (F0 m pc ls (.int v :: .ref (ad t i o) :: rest)) := by
  obtain ⟨q, h⟩ := wl_get (cy := cy) (ad := ad) (M := M) hn
  rw [hM, hct] at h
  refine va_put (v := .int v) (ty := .int) hx hb hts hin ty0 hty hnm hown hK hW.1 hW.2.1 hW.2.2 q h hc k hk (hts _ hq) (fun _ h9 => h9) hfin (by rw [hty k hk, hd]) rfl rfl hl hdg (fun H1 locs1 hP hD hS => ?_)
  have e := wl_set (x := upd x k v) hW.2.1 hn h
  rw [hset] at e
  rw [e, hM2] at hP hD
  exact kk H1 locs1 ⟨hP, hD, hS⟩
theorem x_iald (hx : p.tables.exec = Jvm.exec) (hb : c.code = cc) (hK : va_K D vwCl (tyl cy) s) (hW : Wl D cy ad ns A H0 M H locs) {t i o n : Nat} {x : Nat → Int32} {j : Int32} (hn : (t, i, o) ∈ ns) (hM : M t i o = x) (hct : ctA cy ad t i o x = .inl (cy 0, n, .inl x)) (hin : vp_in j n) (hdg : decode cc pc = .ok (.iaload, 1))
    (kk : W p l e R s m args below meth c H locs cells slots Q (F0 m (pc + 1) ls (.int (x j.toNatClampNeg) :: rest))) : W p l e R s m args below meth c H locs cells slots Q (F0 m pc ls (.int j :: .ref (ad t i o) :: rest)) := by
  obtain ⟨q, h⟩ := wl_get (cy := cy) (ad := ad) (M := M) hn
  rw [hM, hct] at h
  exact va_iald hx hb hK hW.1 q 0 h rfl hin hdg kk
theorem x_iast (hx : p.tables.exec = Jvm.exec) (hb : c.code = cc) (hK : va_K D vwCl (tyl cy) s) (hW : Wl D cy ad ns A H0 M H locs) {t i o n : Nat} {x : Nat → Int32} {j v : Int32} {M2 : Me} (hn : (t, i, o) ∈ ns) (hM : M t i o = x) (hct : ∀ y, ctA cy ad t i o y = .inl (cy 0, n, .inl y)) (hin : vp_in j n) (hM2 : uC M t i o (upd x j.toNatClampNeg v) = M2) (hdg : decode cc pc = .ok (.iastore, 1))
    (kk : ∀ (H1 : Heap) (locs1 : List Loc), Wl D cy ad ns A H0 M2 H1 locs1 → W p l e R s m args below meth c H1 locs1 cells slots Q (F0 m (pc + 1) ls rest)) : W p l e R s m args below meth c H locs cells slots Q (F0 m pc ls (.int v :: .int j :: .ref (ad t i o) :: rest)) := by
  obtain ⟨q, h⟩ := wl_get (cy := cy) (ad := ad) (M := M) hn
  rw [hM, hct] at h
  refine va_iast hx hb hK hW.1 hW.2.1 hW.2.2 q 0 h rfl hin hdg (fun H1 locs1 hP hD hS => ?_)
  have e := wl_set (x := upd x j.toNatClampNeg v) hW.2.1 hn h
  rw [hct] at e
  rw [e, hM2] at hP hD
  exact kk H1 locs1 ⟨hP, hD, hS⟩
theorem x_zald (hx : p.tables.exec = Jvm.exec) (hb : c.code = cc) (hK : va_K D vwCl (tyl cy) s) (hW : Wl D cy ad ns A H0 M H locs) {t i o n : Nat} {x : Nat → Int32} {j : Int32} (hn : (t, i, o) ∈ ns) (hM : M t i o = x) (hct : ctA cy ad t i o x = .inl (cy 1, n, .inl x)) (hin : vp_in j n) (hdg : decode cc pc = .ok (.baload, 1))
    (kk : W p l e R s m args below meth c H locs cells slots Q (F0 m (pc + 1) ls (.int (x j.toNatClampNeg) :: rest))) : W p l e R s m args below meth c H locs cells slots Q (F0 m pc ls (.int j :: .ref (ad t i o) :: rest)) := by
  obtain ⟨q, h⟩ := wl_get (cy := cy) (ad := ad) (M := M) hn
  rw [hM, hct] at h
  exact va_zald hx hb hK hW.1 q 1 h rfl hin hdg kk
theorem x_zast (hx : p.tables.exec = Jvm.exec) (hb : c.code = cc) (hK : va_K D vwCl (tyl cy) s) (hW : Wl D cy ad ns A H0 M H locs) {t i o n : Nat} {x : Nat → Int32} {j v : Int32} {M2 : Me} (hn : (t, i, o) ∈ ns) (hM : M t i o = x) (hct : ∀ y, ctA cy ad t i o y = .inl (cy 1, n, .inl y)) (hin : vp_in j n) (hv : vp_nar .boolean v = v) (hM2 : uC M t i o (upd x j.toNatClampNeg v) = M2) (hdg : decode cc pc = .ok (.bastore, 1))
    (kk : ∀ (H1 : Heap) (locs1 : List Loc), Wl D cy ad ns A H0 M2 H1 locs1 → W p l e R s m args below meth c H1 locs1 cells slots Q (F0 m (pc + 1) ls rest)) : W p l e R s m args below meth c H locs cells slots Q (F0 m pc ls (.int v :: .int j :: .ref (ad t i o) :: rest)) := by
  obtain ⟨q, h⟩ := wl_get (cy := cy) (ad := ad) (M := M) hn
  rw [hM, hct] at h
  refine va_zast hx hb hK hW.1 hW.2.1 hW.2.2 q 1 h rfl hin hdg (fun H1 locs1 hP hD hS => ?_)
  rw [hv] at hP hD
  have e := wl_set (x := upd x j.toNatClampNeg v) hW.2.1 hn h
  rw [hct] at e
  rw [e, hM2] at hP hD
  exact kk H1 locs1 ⟨hP, hD, hS⟩
theorem x_aald (hx : p.tables.exec = Jvm.exec) (hb : c.code = cc) (hK : va_K D vwCl (tyl cy) s) (hW : Wl D cy ad ns A H0 M H locs) {t i o n : Nat} {x : Nat → Int32} {f : Nat → Nat} {j : Int32} (hn : (t, i, o) ∈ ns) (hM : M t i o = x) (hct : ctA cy ad t i o x = .inl (cy 4, n, rA (rO n f))) (hin : vp_in j n) (hdg : decode cc pc = .ok (.aaload, 1))
    (kk : W p l e R s m args below meth c H locs cells slots Q (F0 m (pc + 1) ls (.ref (f j.toNatClampNeg) :: rest))) : W p l e R s m args below meth c H locs cells slots Q (F0 m pc ls (.int j :: .ref (ad t i o) :: rest)) := by
  obtain ⟨q, h⟩ := wl_get (cy := cy) (ad := ad) (M := M) hn
  rw [hM, hct] at h
  have hlt : j.toNatClampNeg < n := Nat.not_le.mp fun z => hin (Or.inr z)
  have e : Value.ref (f j.toNatClampNeg) = va_rf (rO n f j.toNatClampNeg) := by simp [rO, hlt, va_rf]
  rw [e] at kk
  exact W.aald (v := va_rf (rO n f j.toNatClampNeg)) (ty := .array .int) hx hb (hW.1 q _ h) ((hK.2 4 _ rfl).1 n (fun z => va_rf (rO n f z))) rfl (fun z => by cases z) (by show ¬ (j < 0 ∨ (arrV _ _ _).slots.size ≤ _); rw [arrV_size]; exact hin) (by show (arrV _ _ _).slots[_]? = _; rw [arrV_read _ _ hlt]) rfl rfl hdg kk
theorem x_alen (hx : p.tables.exec = Jvm.exec) (hb : c.code = cc) (hK : va_K D vwCl (tyl cy) s) (hW : Wl D cy ad ns A H0 M H locs) {t i o n k : Nat} {x : Nat → Int32} {f : (Nat → Int32) ⊕ (Nat → Int64) ⊕ (Nat → UInt32) ⊕ (Nat → UInt64) ⊕ (Nat → Option Nat)} {v : Int32} (hn : (t, i, o) ∈ ns) (hM : M t i o = x) (hct : ctA cy ad t i o x = .inl (cy k, n, f)) (hk : k < 5) (hv : Int32.ofNat n = v) (hdg : decode cc pc = .ok (.arraylength, 1))
    (kk : W p l e R s m args below meth c H locs cells slots Q (F0 m (pc + 1) ls (.int v :: rest))) : W p l e R s m args below meth c H locs cells slots Q (F0 m pc ls (.ref (ad t i o) :: rest)) := by
  obtain ⟨q, h⟩ := wl_get (cy := cy) (ad := ad) (M := M) hn
  rw [hM, hct] at h
  rcases (show k = 0 ∨ k = 1 ∨ k = 2 ∨ k = 3 ∨ k = 4 by omega) with rfl | rfl | rfl | rfl | rfl
  · exact va_alen hx hb hK hW.1 q 0 h rfl hv hdg kk
  · exact va_alen hx hb hK hW.1 q 1 h rfl hv hdg kk
  · exact va_alen hx hb hK hW.1 q 2 h rfl hv hdg kk
  · exact va_alen hx hb hK hW.1 q 3 h rfl hv hdg kk
  · exact va_alen hx hb hK hW.1 q 4 h rfl hv hdg kk
theorem x_good {y : MethodName} {b : ByteArray} {n : Nat} {r : Option FieldType} (h : Cond.code y b n r ∈ tk_tb) : GoodIn tk_tb (.code y b n r :: tk_tb) := by
  intro w hw
  rcases List.mem_cons.mp hw with rfl | hw
  · exact ⟨h, Or.inl rfl⟩
  · exact ⟨hw, (tb_good w hw).2⟩
theorem x_pre {y : Array Value} {sz : Nat} {As : List Value} : FrameBlind (va_Pc As (fun U => U.heap.size = sz ∧ Wo D cy ad ns M U)) :=
  fun a U g mk q => by obtain ⟨q0, q1, qP, qK, qD⟩ := q; exact ⟨q0, q1, qP, va_K.moved (u := U) (U := U.calling g mk a) (Vm.Alike.refl U.vm) qK, qD⟩
theorem x_start (hK : va_K D vwCl (tyl cy) s) (hW : Wl D cy ad ns A H0 M H locs) {As : List Value} : ∀ U : State, U.heap = H → s.WarmedH U.vm → va_Pc As (fun U => U.heap.size = H.size ∧ Wo D cy ad ns M U) As.toArray U :=
  fun U hU hw => ⟨rfl, by rw [hU], by rw [hU]; exact hW.1, va_K.moved hw.alike hK, hW.2.1.weaken (fun _ _ _ _ => trivial)⟩
theorem x_aw (hW : Wl D cy ad ns A H0 M H locs) (hA : ∀ q, H0.size ≤ q → A q) : ∀ q, Aw ad ns H.size q → A q := by
  intro q h
  rcases h with ⟨n, hn, rfl⟩ | h
  · exact hW.in n hn
  · exact hA q (Nat.le_trans hW.2.2.1 h)
theorem x_back (hW : Wl D cy ad ns A H0 M H locs) {M2 : Me} {U : State} {H1 : Heap} {locs1 : List Loc} (hU : U.heap = H1) (h : Wo D cy ad ns M2 U) (hS : va_S A H0 H1 locs1) : Wl D cy ad ns A H0 M2 H1 locs1 := by
  refine ⟨by rw [← hU]; exact h.1, wl_apart hW.2.1 hW.in, hS⟩
section XC
variable {y : MethodName} {bytes : ByteArray} {maxL nL n index : Nat} {rm : Room} {own : String} {As : List Value} {st0 : List Value} {M2 : Me}
/-- a call of an instance method that answers an int -/
theorem x_vi {rt : Option FieldType} (hx : p.tables.exec = Jvm.exec) (hb : c.code = cc) (hml : c.maxLocals = nL) (hts : ∀ w ∈ tk_tb, w.before args s = true) (hown : s.vm.findClass own = some m.cls) (hK : va_K D vwCl (tyl cy) s) (hW : Wl D cy ad ns A H0 M H locs) (hA : ∀ q, H0.size ≤ q → A q) {t i ci : Nat} {fs : List Value} {x : Nat → Int32} {cq : vw_C} {r : Int32}
    (hC : Ci l y (.code y bytes maxL rt :: tk_tb) rm D cy ad ns (.ref (ad t i 0) :: As) M r M2) (hn : (t, i, 0) ∈ ns) (hM : M t i 0 = x) (hct : ctA cy ad t i 0 x = .inr (ci, fs)) (hc : vwCl[ci]? = some cq) (hcq : cq.1 = y.cls)
    (w1 : Cond.methodLink own index y ∈ tk_tb) (w2 : Cond.instanceMethod y ∈ tk_tb) (w3 : Cond.selects y.cls y y ∈ tk_tb) (w4 : Cond.initialized y.cls ∈ tk_tb) (w5 : Cond.code y bytes maxL rt ∈ tk_tb) (hnA : As.length = n) (hd : y.cls ≠ "java/lang/invoke/MethodHandle" ∧ y.cls ≠ "java/lang/invoke/VarHandle" ∧ (parseMethodDescriptor y.desc).map (fun d => d.parameters.length) = some n)
    (hrc : rm.cells = 0) (hrs : rm.slots = 0) (hR : rm.frames + 1 ≤ R.frames ∧ 8 + (maxL + 11) + rm.locals ≤ R.locals) (hls : ls.size = nL) (hst : st0 = As.reverse ++ .ref (ad t i 0) :: rest) (hroom : 2 * (F0 m pc ls st0).monitorRoom + (rest.map fun v => v.category).sum ≤ 8) (hdg : decode cc pc = .ok (.invokevirtual index, 3)) (hf : cells ≤ R.cells ∧ slots ≤ R.slots)
    (kk : ∀ (H1 : Heap) (locs1 : List Loc), Wl D cy ad ns A H0 M2 H1 locs1 → W p l e R s m args below meth c H1 locs1 cells slots Q (F0 m (pc + 3) ls (.int r :: rest))) : W p l e R s m args below meth c H locs cells slots Q (F0 m pc ls st0) := by
  obtain ⟨q, h⟩ := wl_get (cy := cy) (ad := ad) (M := M) hn
  rw [hM, hct] at h
  have hrv := va_recv hK hW.1 hc h
  rw [hcq] at hrv
  refine va_calli (va_runV (As := As) (rest := rest) ⟨hx, hb, hml, hown, hts⟩ (hC H.size) ⟨callB_of n hts (x_good w5) rfl hrc hrs (hts _ w4) (hts _ w1) hd hR, hts _ w2, hts _ w3⟩ ⟨x_pre (y := #[]), hrv, x_start hK hW⟩ rfl hnA hls hst hroom hdg hf) hW.2.2 (fun q _ h => x_aw hW hA q h) (x_aw hW hA) (fun r2 u U H1 locs1 ht hvm hw hB hz1 hk1 hS => ?_)
  obtain ⟨rfl, rfl⟩ := hw
  exact kk H1 locs1 (x_back hW ht hB hS)
theorem x_vv (hx : p.tables.exec = Jvm.exec) (hb : c.code = cc) (hml : c.maxLocals = nL) (hts : ∀ w ∈ tk_tb, w.before args s = true) (hown : s.vm.findClass own = some m.cls) (hK : va_K D vwCl (tyl cy) s) (hW : Wl D cy ad ns A H0 M H locs) (hA : ∀ q, H0.size ≤ q → A q) {t i ci : Nat} {fs : List Value} {x : Nat → Int32} {cq : vw_C}
    (hC : Cv l y (.code y bytes maxL none :: tk_tb) rm D cy ad ns (.ref (ad t i 0) :: As) M M2) (hn : (t, i, 0) ∈ ns) (hM : M t i 0 = x) (hct : ctA cy ad t i 0 x = .inr (ci, fs)) (hc : vwCl[ci]? = some cq) (hcq : cq.1 = y.cls)
    (w1 : Cond.methodLink own index y ∈ tk_tb) (w2 : Cond.instanceMethod y ∈ tk_tb) (w3 : Cond.selects y.cls y y ∈ tk_tb) (w4 : Cond.initialized y.cls ∈ tk_tb) (w5 : Cond.code y bytes maxL none ∈ tk_tb) (hnA : As.length = n) (hd : y.cls ≠ "java/lang/invoke/MethodHandle" ∧ y.cls ≠ "java/lang/invoke/VarHandle" ∧ (parseMethodDescriptor y.desc).map (fun d => d.parameters.length) = some n)
    (hrc : rm.cells = 0) (hrs : rm.slots = 0) (hR : rm.frames + 1 ≤ R.frames ∧ 8 + (maxL + 11) + rm.locals ≤ R.locals) (hls : ls.size = nL) (hst : st0 = As.reverse ++ .ref (ad t i 0) :: rest) (hroom : 2 * (F0 m pc ls st0).monitorRoom + (rest.map fun v => v.category).sum ≤ 8) (hdg : decode cc pc = .ok (.invokevirtual index, 3)) (hf : cells ≤ R.cells ∧ slots ≤ R.slots)
    (kk : ∀ (H1 : Heap) (locs1 : List Loc), Wl D cy ad ns A H0 M2 H1 locs1 → W p l e R s m args below meth c H1 locs1 cells slots Q (F0 m (pc + 3) ls rest)) : W p l e R s m args below meth c H locs cells slots Q (F0 m pc ls st0) := by
  obtain ⟨q, h⟩ := wl_get (cy := cy) (ad := ad) (M := M) hn
  rw [hM, hct] at h
  have hrv := va_recv hK hW.1 hc h
  rw [hcq] at hrv
  refine va_callv (va_runV (As := As) (rest := rest) ⟨hx, hb, hml, hown, hts⟩ (hC H.size) ⟨callB_of n hts (x_good w5) rfl hrc hrs (hts _ w4) (hts _ w1) hd hR, hts _ w2, hts _ w3⟩ ⟨x_pre (y := #[]), hrv, x_start hK hW⟩ rfl hnA hls hst hroom hdg hf) hW.2.2 (fun q _ h => x_aw hW hA q h) (x_aw hW hA) (fun u U H1 locs1 ht hvm hw hB hz1 hk1 hS => ?_)
  subst hw
  exact kk H1 locs1 (x_back hW ht hB hS)
theorem x_si {rt : Option FieldType} (hx : p.tables.exec = Jvm.exec) (hb : c.code = cc) (hml : c.maxLocals = nL) (hts : ∀ w ∈ tk_tb, w.before args s = true) (hown : s.vm.findClass own = some m.cls) (hK : va_K D vwCl (tyl cy) s) (hW : Wl D cy ad ns A H0 M H locs) (hA : ∀ q, H0.size ≤ q → A q) {r : Int32}
    (hC : Ci l y (.code y bytes maxL rt :: tk_tb) rm D cy ad ns As M r M2)
    (w1 : Cond.methodLink own index y ∈ tk_tb) (w2 : Cond.static y ∈ tk_tb) (w4 : Cond.initialized y.cls ∈ tk_tb) (w5 : Cond.code y bytes maxL rt ∈ tk_tb) (hnA : As.length = n) (hd : y.cls ≠ "java/lang/invoke/MethodHandle" ∧ y.cls ≠ "java/lang/invoke/VarHandle" ∧ (parseMethodDescriptor y.desc).map (fun d => d.parameters.length) = some n)
    (hrc : rm.cells = 0) (hrs : rm.slots = 0) (hR : rm.frames + 1 ≤ R.frames ∧ 8 + (maxL + 11) + rm.locals ≤ R.locals) (hls : ls.size = nL) (hst : st0 = As.reverse ++ rest) (hroom : 2 * (F0 m pc ls st0).monitorRoom + (rest.map fun v => v.category).sum ≤ 8) (hdg : decode cc pc = .ok (.invokestatic index, 3)) (hf : cells ≤ R.cells ∧ slots ≤ R.slots)
    (kk : ∀ (H1 : Heap) (locs1 : List Loc), Wl D cy ad ns A H0 M2 H1 locs1 → W p l e R s m args below meth c H1 locs1 cells slots Q (F0 m (pc + 3) ls (.int r :: rest))) : W p l e R s m args below meth c H locs cells slots Q (F0 m pc ls st0) := by
  refine va_calli (va_runS (As := As) (rest := rest) ⟨hx, hb, hml, hown, hts⟩ (hC H.size) ⟨callB_of n hts (x_good w5) rfl hrc hrs (hts _ w4) (hts _ w1) hd hR, hts _ w2⟩ ⟨x_pre (y := #[]), x_start hK hW⟩ rfl hnA hls hst hroom hdg hf) hW.2.2 (fun q _ h => x_aw hW hA q h) (x_aw hW hA) (fun r2 u U H1 locs1 ht hvm hw hB hz1 hk1 hS => ?_)
  obtain ⟨rfl, rfl⟩ := hw
  exact kk H1 locs1 (x_back hW ht hB hS)
theorem x_sv (hx : p.tables.exec = Jvm.exec) (hb : c.code = cc) (hml : c.maxLocals = nL) (hts : ∀ w ∈ tk_tb, w.before args s = true) (hown : s.vm.findClass own = some m.cls) (hK : va_K D vwCl (tyl cy) s) (hW : Wl D cy ad ns A H0 M H locs) (hA : ∀ q, H0.size ≤ q → A q)
    (hC : Cv l y (.code y bytes maxL none :: tk_tb) rm D cy ad ns As M M2)
    (w1 : Cond.methodLink own index y ∈ tk_tb) (w2 : Cond.static y ∈ tk_tb) (w4 : Cond.initialized y.cls ∈ tk_tb) (w5 : Cond.code y bytes maxL none ∈ tk_tb) (hnA : As.length = n) (hd : y.cls ≠ "java/lang/invoke/MethodHandle" ∧ y.cls ≠ "java/lang/invoke/VarHandle" ∧ (parseMethodDescriptor y.desc).map (fun d => d.parameters.length) = some n)
    (hrc : rm.cells = 0) (hrs : rm.slots = 0) (hR : rm.frames + 1 ≤ R.frames ∧ 8 + (maxL + 11) + rm.locals ≤ R.locals) (hls : ls.size = nL) (hst : st0 = As.reverse ++ rest) (hroom : 2 * (F0 m pc ls st0).monitorRoom + (rest.map fun v => v.category).sum ≤ 8) (hdg : decode cc pc = .ok (.invokestatic index, 3)) (hf : cells ≤ R.cells ∧ slots ≤ R.slots)
    (kk : ∀ (H1 : Heap) (locs1 : List Loc), Wl D cy ad ns A H0 M2 H1 locs1 → W p l e R s m args below meth c H1 locs1 cells slots Q (F0 m (pc + 3) ls rest)) : W p l e R s m args below meth c H locs cells slots Q (F0 m pc ls st0) := by
  refine va_callv (va_runS (As := As) (rest := rest) ⟨hx, hb, hml, hown, hts⟩ (hC H.size) ⟨callB_of n hts (x_good w5) rfl hrc hrs (hts _ w4) (hts _ w1) hd hR, hts _ w2⟩ ⟨x_pre (y := #[]), x_start hK hW⟩ rfl hnA hls hst hroom hdg hf) hW.2.2 (fun q _ h => x_aw hW hA q h) (x_aw hW hA) (fun u U H1 locs1 ht hvm hw hB hz1 hk1 hS => ?_)
  subst hw
  exact kk H1 locs1 (x_back hW ht hB hS)
end XC
end XR
/-- what a walk of a method aims at -/
abbrev QI (below : List Frame) (D : va_G) (cy : Nat → ClassId) (ad : Nat → Nat → Nat → Nat) (ns : List (Nat × Nat × Nat)) (As : List Value) (s : State) (r : Int32) (M2 : Me) : State → Prop := MQ below (va_Qi (fun (r2 : Int32) (N : Me) => r2 = r ∧ N = M2) (fun N U => Wo D cy ad ns N U) (Aw ad ns s.heap.size)) As.toArray s 0 0 (Aw ad ns s.heap.size)
abbrev QV (below : List Frame) (D : va_G) (cy : Nat → ClassId) (ad : Nat → Nat → Nat → Nat) (ns : List (Nat × Nat × Nat)) (As : List Value) (s : State) (M2 : Me) : State → Prop := MQ below (va_Qv (fun (N : Me) => N = M2) (fun N U => Wo D cy ad ns N U) (Aw ad ns s.heap.size)) As.toArray s 0 0 (Aw ad ns s.heap.size)
/-- what holds at a method's entry -/
def En (p : Program) (s : State) (m : MethodId) (meth : Method) (c : Code) (y : MethodName) (cc : ByteArray) (maxL : Nat) (rt : Option FieldType) (D : va_G) (cy : Nat → ClassId) (ad : Nat → Nat → Nat → Nat) (ns : List (Nat × Nat × Nat)) (As : List Value) : Prop :=
  p.tables.exec = Jvm.exec ∧ c.code = cc ∧ meth.sig.returnType = rt ∧ c.maxLocals = maxL ∧ s.vm.findClass y.cls = some m.cls ∧ (∀ w ∈ tk_tb, w.before As.toArray s = true) ∧ meth.locks = false ∧ va_K D vwCl (tyl cy) s
theorem Ci.of {l : Launch} {y : MethodName} {cc : ByteArray} {maxL : Nat} {rt : Option FieldType} {rm : Room} {D : va_G} {cy : Nat → ClassId} {ad : Nat → Nat → Nat → Nat} {ns : List (Nat × Nat × Nat)} {As : List Value} {M : Me} {r : Int32} {M2 : Me} (hy : plainName y.cls = true) (hlen : (lg_sl As).length ≤ maxL)
    (body : ∀ (p : Program) (e : Env) (s : State) (m : MethodId) (below : List Frame) (meth : Method) (c : Code) (ls : Array Slot), En p s m meth c y cc maxL rt D cy ad ns As → Wl D cy ad ns (Aw ad ns s.heap.size) s.heap M s.heap [] → lv_has ls maxL (lv_args 0 As) → W p l e rm s m As.toArray below meth c s.heap [] 0 0 (QI below D cy ad ns As s r M2) (F0 m 0 ls [])) :
    Ci l y (.code y cc maxL rt :: tk_tb) rm D cy ad ns As M r M2 := by
  intro sz
  refine Met.ofW (cc := cc) (maxL := maxL) (ret := rt) hy rfl ?_
  intro p e s m args below meth c s₁ B hml hv
  obtain ⟨rfl, hsz, hP, hK, hD0⟩ := hv
  subst hsz
  have hts := atoms_spec (ws := Cond.code y cc maxL rt :: tk_tb) B.pre
  have hl := lv_entry As (n := maxL) hlen
  rw [lg_entry_eq]
  exact body p e s m below meth c _ ⟨B.exec, B.bytes, B.returns, hml, findClass_of_methodNamed B.named, fun w h => hts w (List.mem_cons_of_mem _ h), B.notSynchronized, hK⟩ ⟨hP, wl_apart hD0 (fun n hn => Or.inl ⟨n, hn, rfl⟩), va_S.rf⟩ hl
theorem Cv.of {l : Launch} {y : MethodName} {cc : ByteArray} {maxL : Nat} {rm : Room} {D : va_G} {cy : Nat → ClassId} {ad : Nat → Nat → Nat → Nat} {ns : List (Nat × Nat × Nat)} {As : List Value} {M : Me} {M2 : Me} (hy : plainName y.cls = true) (hlen : (lg_sl As).length ≤ maxL)
    (body : ∀ (p : Program) (e : Env) (s : State) (m : MethodId) (below : List Frame) (meth : Method) (c : Code) (ls : Array Slot), En p s m meth c y cc maxL none D cy ad ns As → Wl D cy ad ns (Aw ad ns s.heap.size) s.heap M s.heap [] → lv_has ls maxL (lv_args 0 As) → W p l e rm s m As.toArray below meth c s.heap [] 0 0 (QV below D cy ad ns As s M2) (F0 m 0 ls [])) :
    Cv l y (.code y cc maxL none :: tk_tb) rm D cy ad ns As M M2 := by
  intro sz
  refine Met.ofW (cc := cc) (maxL := maxL) (ret := none) hy rfl ?_
  intro p e s m args below meth c s₁ B hml hv
  obtain ⟨rfl, hsz, hP, hK, hD0⟩ := hv
  subst hsz
  have hts := atoms_spec (ws := Cond.code y cc maxL none :: tk_tb) B.pre
  have hl := lv_entry As (n := maxL) hlen
  rw [lg_entry_eq]
  exact body p e s m below meth c _ ⟨B.exec, B.bytes, B.returns, hml, findClass_of_methodNamed B.named, fun w h => hts w (List.mem_cons_of_mem _ h), B.notSynchronized, hK⟩ ⟨hP, wl_apart hD0 (fun n hn => Or.inl ⟨n, hn, rfl⟩), va_S.rf⟩ hl
section XE
variable {p : Program} {l : Launch} {e : Env} {R : Room} {s : State} {m : MethodId} {below : List Frame} {meth : Method} {c : Code} {H : Heap} {locs : List Loc}
variable {cc : ByteArray} {pc : Nat} {ls : Array Slot} {D : va_G} {cy : Nat → ClassId} {ad : Nat → Nat → Nat → Nat} {ns : List (Nat × Nat × Nat)} {M M2 : Me} {As : List Value} {v r : Int32}
theorem x_iret (hx : p.tables.exec = Jvm.exec) (hb : c.code = cc) (hr : meth.sig.returnType = some .int) (hlocks : meth.locks = false) (hK : va_K D vwCl (tyl cy) s) (hW : Wl D cy ad ns (Aw ad ns s.heap.size) s.heap M H locs) (hv : v = r) (hM : M = M2) (hdg : decode cc pc = .ok (.ireturn, 1)) :
    W p l e R s m As.toArray below meth c H locs 0 0 (QI below D cy ad ns As s r M2) (F0 m pc ls [.int v]) := by
  subst hv
  subst hM
  exact W.iret hx hb hr (fun t ht hW2 => ⟨⟨v, M, rfl, ⟨rfl, rfl⟩, by rw [ht]; exact hW.1, va_K.moved hW2.alike hK, hW.2.1.weaken (fun _ _ _ _ => trivial)⟩, hW.2.2.F ht⟩) hW.2.2.2.2 hdg hlocks
theorem x_zret {ty : FieldType} (hx : p.tables.exec = Jvm.exec) (hb : c.code = cc) (hr : meth.sig.returnType = some ty) (hlocks : meth.locks = false) (hn : narrow ty (.int v) = .int v) (hK : va_K D vwCl (tyl cy) s) (hW : Wl D cy ad ns (Aw ad ns s.heap.size) s.heap M H locs) (hv : v = r) (hM : M = M2) (hdg : decode cc pc = .ok (.ireturn, 1)) :
    W p l e R s m As.toArray below meth c H locs 0 0 (QI below D cy ad ns As s r M2) (F0 m pc ls [.int v]) := by
  subst hv
  subst hM
  exact W.zret hx hb hr hn (fun t ht hW2 => ⟨⟨v, M, rfl, ⟨rfl, rfl⟩, by rw [ht]; exact hW.1, va_K.moved hW2.alike hK, hW.2.1.weaken (fun _ _ _ _ => trivial)⟩, hW.2.2.F ht⟩) hW.2.2.2.2 hdg hlocks
theorem x_vret (hx : p.tables.exec = Jvm.exec) (hb : c.code = cc) (hr : meth.sig.returnType = none) (hlocks : meth.locks = false) (hK : va_K D vwCl (tyl cy) s) (hW : Wl D cy ad ns (Aw ad ns s.heap.size) s.heap M H locs) (hM : M = M2) (hdg : decode cc pc = .ok (.return_, 1)) :
    W p l e R s m As.toArray below meth c H locs 0 0 (QV below D cy ad ns As s M2) (F0 m pc ls []) := by
  subst hM
  exact W.vret hx hb hr (fun t ht hW2 => ⟨⟨M, rfl, rfl, by rw [ht]; exact hW.1, va_K.moved hW2.alike hK, hW.2.1.weaken (fun _ _ _ _ => trivial)⟩, hW.2.2.F ht⟩) hW.2.2.2.2 hdg hlocks
end XE
/-! the words of the mirrored programs -/
def rd {α : Type} (n : Nat) (x : Nat → Int32) (j : Int32) (k : Int32 → Option α) : Option α := if j < 0 ∨ n ≤ j.toNatClampNeg then none else k (x j.toNatClampNeg)
def ck {α : Type} (n : Nat) (j : Int32) (k : Option α) : Option α := if j < 0 ∨ n ≤ j.toNatClampNeg then none else k
def nz {α : Type} (d : Int32) (k : Option α) : Option α := if d = 0 then none else k
theorem rd_some {α : Type} {n : Nat} {x : Nat → Int32} {j : Int32} {k : Int32 → Option α} {r : α} (h : rd n x j k = some r) : vp_in j n ∧ k (x j.toNatClampNeg) = some r := by
  unfold rd at h
  split at h
  · cases h
  · exact ⟨by assumption, h⟩
theorem ck_some {α : Type} {n : Nat} {j : Int32} {k : Option α} {r : α} (h : ck n j k = some r) : vp_in j n ∧ k = some r := by
  unfold ck at h
  split at h
  · cases h
  · exact ⟨by assumption, h⟩
theorem nz_some {α : Type} {d : Int32} {k : Option α} {r : α} (h : nz d k = some r) : ¬ d = 0 ∧ k = some r := by
  unfold nz at h
  split at h
  · cases h
  · exact ⟨by assumption, h⟩
theorem bd_some {α β : Type} {o : Option β} {k : β → Option α} {r : α} (h : o.bind k = some r) : ∃ b, o = some b ∧ k b = some r := by
  cases o with
  | none => cases h
  | some b => exact ⟨b, rfl, h⟩
theorem vp_lt {j : Int32} {n : Nat} (h : vp_in j n) : j.toNatClampNeg < n := Nat.not_le.mp fun z => h (Or.inr z)
