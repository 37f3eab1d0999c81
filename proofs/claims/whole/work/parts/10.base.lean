def NF : Nat := 8000
def st {α β : Type} (m : β) (k : β → Option α) : Option α := k m
def wr {α β : Type} (n : Nat) (j : Int32) (m : β) (k : β → Option α) : Option α := if j < 0 ∨ n ≤ j.toNatClampNeg then none else k m
def b2 {α β : Type} (o : Option (Int32 × β)) (k : Int32 → β → Option α) : Option α := o.bind (fun q => k q.1 q.2)
theorem st_some {α β : Type} {m : β} {k : β → Option α} {r : α} (h : st m k = some r) : k m = some r := h
theorem wr_some {α β : Type} {n : Nat} {j : Int32} {m : β} {k : β → Option α} {r : α} (h : wr n j m k = some r) : vp_in j n ∧ k m = some r := by
  unfold wr at h
  split at h
  · cases h
  · exact ⟨by assumption, h⟩
theorem b2_some {α β : Type} {o : Option (Int32 × β)} {k : Int32 → β → Option α} {r : α} (h : b2 o k = some r) : ∃ v m, o = some (v, m) ∧ k v m = some r := by
  unfold b2 at h
  cases o with
  | none => cases h
  | some q => exact ⟨q.1, q.2, rfl, h⟩
def bz {α : Type} (v : Int32) (k : Option α) : Option α := if v = 0 ∨ v = 1 then k else none
theorem bz_some {α : Type} {v : Int32} {k : Option α} {r : α} (h : bz v k = some r) : narrow .boolean (.int v) = .int v ∧ k = some r := by
  unfold bz at h
  split at h
  · rename_i hv
    refine ⟨?_, h⟩
    rcases hv with rfl | rfl <;> rfl
  · cases h
/-- the first n places are v -/
def fl (n : Nat) (v : Int32) (x : Nat → Int32) : Nat → Int32 := fun j => if j < n then v else x j
theorem uI_o {M : Me} {t i o : Nat} {g : Sg} : uI M t i g t i o = g o := by rw [uI_at]
theorem uI_oth {M : Me} {t i u o : Nat} {g h : Sg} (hne : u ≠ t) (hO : M u i = h) : uI M t i g u i o = h o := by rw [uI_ne hne, hO]
theorem up_io {M : Me} {t i o : Nat} {S : Ob} : va_up M t S t i o = S i o := by rw [va_up_self]
theorem uI_gid {M : Me} {t i : Nat} {S : Ob} : uI (va_up M t S) t i (S i) = va_up M t S := by rw [uI_grp, up_id]
theorem uC_id {M : Me} {t i o : Nat} : uC M t i o (M t i o) = M := by
  unfold uC
  rw [up_id, uI_id]
theorem uC_uC {M : Me} {t i o : Nat} {x y : Nat → Int32} : uC (uC M t i o x) t i o y = uC M t i o y := by
  unfold uC
  rw [uI_uI, uI_at, up_uu]
theorem x_o {o n : Nat} (h : o < 6) : o < n + 6 := by omega
theorem x_lt {r k b N : Nat} (h : r < k) (h2 : k + b ≤ N) : r + b < N := by omega
theorem x_lt2 {r n : Nat} (h : r < n) : r + 6 < n + 6 := by omega
theorem sk6 {cy : Nat → ClassId} {ad : Nat → Nat → Nat → Nat} {t i r : Nat} {x : Nat → Int32} (h : r < 4) : ctSketch cy ad t i (r + 6) x = .inl (cy 0, 64, .inl x) := by
  show (Sum.inl (cy 0, (if r < 4 then 64 else 100), Sum.inl x) : va_E) = _
  rw [if_pos h]
theorem sk10 {cy : Nat → ClassId} {ad : Nat → Nat → Nat → Nat} {t i r : Nat} {x : Nat → Int32} (h : r < 4) : ctSketch cy ad t i (r + 10) x = .inl (cy 0, 100, .inl x) := by
  show (Sum.inl (cy 0, (if r + 4 < 4 then 64 else 100), Sum.inl x) : va_E) = _
  rw [if_neg (by omega)]
theorem sk14 {cy : Nat → ClassId} {ad : Nat → Nat → Nat → Nat} {t i r : Nat} {x : Nat → Int32} (h : r < 2) : ctSketch cy ad t i (r + 14) x = .inl (cy 0, 100, .inl x) := by
  show (Sum.inl (cy 0, (if r + 8 < 4 then 64 else 100), Sum.inl x) : va_E) = _
  rw [if_neg (by omega)]
def IsRows (cy : Nat → ClassId) (ad : Nat → Nat → Nat → Nat) (ns : List (Nat × Nat × Nat)) (t i n : Nat) : Prop := (∀ o x, ctA cy ad t i o x = ctRows cy ad n t i o x) ∧ ∀ o, o < n + 6 → (t, i, o) ∈ ns
def IsSketch (cy : Nat → ClassId) (ad : Nat → Nat → Nat → Nat) (ns : List (Nat × Nat × Nat)) (t i : Nat) : Prop := (∀ o x, ctA cy ad t i o x = ctSketch cy ad t i o x) ∧ ∀ o, o < 16 → (t, i, o) ∈ ns
def IsTrace (cy : Nat → ClassId) (ad : Nat → Nat → Nat → Nat) (ns : List (Nat × Nat × Nat)) (t i : Nat) : Prop := (∀ o x, ctA cy ad t i o x = ctTrace cy ad t i o x) ∧ ∀ o, o < 2 → (t, i, o) ∈ ns
def IsClimb (cy : Nat → ClassId) (ad : Nat → Nat → Nat → Nat) (ns : List (Nat × Nat × Nat)) (t i : Nat) : Prop := (∀ (o : Nat) (x : Nat → Int32), ctA cy ad t i o x = ctClimb x) ∧ ∀ o, o < 1 → (t, i, o) ∈ ns
def IsSeats (cy : Nat → ClassId) (ad : Nat → Nat → Nat → Nat) (ns : List (Nat × Nat × Nat)) (t i : Nat) : Prop := (∀ o x, ctA cy ad t i o x = ctSeats cy ad t i o x) ∧ ∀ o, o < 7 → (t, i, o) ∈ ns
def IsModel (cy : Nat → ClassId) (ad : Nat → Nat → Nat → Nat) (ns : List (Nat × Nat × Nat)) (t i : Nat) : Prop := (∀ o x, ctA cy ad t i o x = ctModel cy ad t i o x) ∧ ∀ o, o < 12 → (t, i, o) ∈ ns
def IsMain (cy : Nat → ClassId) (ad : Nat → Nat → Nat → Nat) (ns : List (Nat × Nat × Nat)) (t i : Nat) : Prop := (∀ o x, ctA cy ad t i o x = ctMain cy ad t i o x) ∧ ∀ o, o < 2 → (t, i, o) ∈ ns
def IsSt (cy : Nat → ClassId) (ad : Nat → Nat → Nat → Nat) (ns : List (Nat × Nat × Nat)) (t : Nat) : Prop := (∀ i o x, ctA cy ad t i o x = ctSt cy ad t i o x) ∧ ∀ i o, o < szSt i → (t, i, o) ∈ ns
def IsPl (cy : Nat → ClassId) (ad : Nat → Nat → Nat → Nat) (ns : List (Nat × Nat × Nat)) (t : Nat) : Prop := (∀ i o x, ctA cy ad t i o x = ctPl cy ad t i o x) ∧ ∀ i o, o < szPl i → (t, i, o) ∈ ns
section
variable {cy : Nat → ClassId} {ad : Nat → Nat → Nat → Nat} {ns : List (Nat × Nat × Nat)} {t : Nat}
theorem IsSt.at_2 (h : IsSt cy ad ns t) : IsSketch cy ad ns t 2 := ⟨fun o x => h.1 2 o x, fun o ho => h.2 2 o ho⟩
theorem IsSt.at_3 (h : IsSt cy ad ns t) : IsRows cy ad ns t 3 3 := ⟨fun o x => h.1 3 o x, fun o ho => h.2 3 o ho⟩
theorem IsSt.at_4 (h : IsSt cy ad ns t) : IsTrace cy ad ns t 4 := ⟨fun o x => h.1 4 o x, fun o ho => h.2 4 o ho⟩
theorem IsSt.at_5 (h : IsSt cy ad ns t) : IsClimb cy ad ns t 5 := ⟨fun o x => h.1 5 o x, fun o ho => h.2 5 o ho⟩
theorem IsPl.pl_7 (h : IsPl cy ad ns t) : IsRows cy ad ns t 7 4 := ⟨fun o x => h.1 7 o x, fun o ho => h.2 7 o ho⟩
theorem IsPl.seat (h : IsPl cy ad ns t) {i : Nat} (h1 : i < 5) : IsSeats cy ad ns t (i + 1) := by
  rcases (show i = 0 ∨ i = 1 ∨ i = 2 ∨ i = 3 ∨ i = 4 by omega) with rfl | rfl | rfl | rfl | rfl
  · exact ⟨fun o x => h.1 1 o x, fun o ho => h.2 1 o ho⟩
  · exact ⟨fun o x => h.1 2 o x, fun o ho => h.2 2 o ho⟩
  · exact ⟨fun o x => h.1 3 o x, fun o ho => h.2 3 o ho⟩
  · exact ⟨fun o x => h.1 4 o x, fun o ho => h.2 4 o ho⟩
  · exact ⟨fun o x => h.1 5 o x, fun o ho => h.2 5 o ho⟩
end
theorem ne_toInt {x v : Int32} {z : Int} (hz : v.toInt = z) (h : ¬ x = v) : x.toInt ≠ z := fun e => h (Int32.toInt_inj.mp (e.trans hz.symm))
section XB
variable {p : Program} {l : Launch} {e : Env} {R : Room} {s : State} {m : MethodId} {args : Array Value} {below : List Frame} {meth : Method} {c : Code} {H : Heap} {locs : List Loc} {cells slots : Nat} {Q : State → Prop}
variable {cc : ByteArray} {pc : Nat} {ls : Array Slot} {rest : List Value} {D : va_G} {cy : Nat → ClassId} {ad : Nat → Nat → Nat → Nat} {ns : List (Nat × Nat × Nat)} {A : Nat → Prop} {H0 : Heap} {M : Me}
theorem x_tab {dflt lo hi : Int} {offs : Array Int} {len : Nat} {x v : Int32} {off : Int} {tgt : Nat} (hxv : x = v) (hx : p.tables.exec = Jvm.exec) (hb : c.code = cc) (hdg : decode cc pc = .ok (.tableswitch dflt lo hi offs, len)) (h1 : ¬ v.toInt < lo) (h2 : ¬ hi < v.toInt) (ho : offs[(v.toInt - lo).toNat]? = some off) (ht : (pc : Int) + off = (tgt : Int))
    (k : W p l e R s m args below meth c H locs cells slots Q (F0 m tgt ls rest)) : W p l e R s m args below meth c H locs cells slots Q (F0 m pc ls (.int x :: rest)) := by
  subst hxv
  exact lv_tableIn hx hb hdg h1 h2 ho ht k
theorem x_copy {n : Nat} {own : String} {index : Nat} (hx : p.tables.exec = Jvm.exec) (hb : c.code = cc) (hml : c.maxLocals = ls.size) (hts : ∀ w ∈ tk_tb, w.before args s = true) (hown : s.vm.findClass own = some m.cls) (hK : va_K D vwCl (tyl cy) s) (hW : Wl D cy ad ns A H0 M H locs) {t i o t2 i2 o2 n0 n1 : Nat} {x y : Nat → Int32} {nn : Int32} {M2 : Me}
    (hn0 : (t, i, o) ∈ ns) (hM0 : M t i o = x) (hct0 : ctA cy ad t i o x = .inl (cy 0, n0, .inl x)) (hn1 : (t2, i2, o2) ∈ ns) (hM1 : M t2 i2 o2 = y) (hct1 : ∀ z, ctA cy ad t2 i2 o2 z = .inl (cy 0, n1, .inl z)) (hnn : nn.toNatClampNeg = n) (h3 : ¬ nn < 0) (h4 : n ≤ n0) (h5 : n ≤ n1) (hM2 : uC M t2 i2 o2 (va_cpy x y 0 0 n) = M2) (w1 : Cond.methodLink own index arraycopyName ∈ tk_tb)
    (hframes : 1 ≤ R.frames) (hlocals : (rest.map fun v => v.category).sum + (nativeFrameWords "java/lang/System" "arraycopy" 5 + 11) ≤ R.locals) (hdg : decode cc pc = .ok (.invokestatic index, 3))
    (kk : ∀ (H1 : Heap) (locs1 : List Loc), Wl D cy ad ns A H0 M2 H1 locs1 → W p l e R s m args below meth c H1 locs1 cells slots Q (F0 m (pc + 3) ls rest)) : W p l e R s m args below meth c H locs cells slots Q (F0 m pc ls (.int nn :: .int 0 :: .ref (ad t2 i2 o2) :: .int 0 :: .ref (ad t i o) :: rest)) := by
  subst hnn
  obtain ⟨q0, g0⟩ := wl_get (cy := cy) (ad := ad) (M := M) hn0
  obtain ⟨q1, g1⟩ := wl_get (cy := cy) (ad := ad) (M := M) hn1
  rw [hM0, hct0] at g0
  rw [hM1, hct1] at g1
  have z0 : (0 : Int32).toNatClampNeg = 0 := rfl
  refine va_copyi hx hb hml hown (hts _ w1) (hts _ t_684) (hts _ t_683) (hts _ t_15) hK hW.1 hW.2.1 hW.2.2 q0 q1 0 0 (ty := .int) g0 g1 rfl rfl rfl (by decide) (by decide) h3 (by rw [z0]; omega) (by rw [z0]; omega) (fun _ _ => rfl) hframes hlocals hdg (fun H1 locs1 hP hD hS => ?_)
  rw [z0] at hP hD
  have e := wl_set (x := va_cpy x y 0 0 nn.toNatClampNeg) hW.2.1 hn1 g1
  rw [hct1] at e
  rw [e, hM2] at hP hD
  exact kk H1 locs1 ⟨hP, hD, hS⟩
end XB
theorem fl_0 {v : Int32} {x : Nat → Int32} : fl 0 v x = x := by
  funext j
  simp [fl]
theorem fl_s {k : Nat} {v : Int32} {x : Nat → Int32} : upd (fl k v x) k v = fl (k + 1) v x := by
  funext j
  by_cases h : j = k
  · subst h
    simp [fl, upd]
  · by_cases h2 : j < k
    · simp [fl, upd, h, h2, show j < k + 1 by omega]
    · simp [fl, upd, h, h2, show ¬ j < k + 1 by omega]
set_option maxHeartbeats 4000000 in
set_option maxRecDepth 100000 in
theorem fill_ok (l : Launch) (D : va_G) (cy : Nat → ClassId) (ad : Nat → Nat → Nat → Nat) (ns : List (Nat × Nat × Nat)) (M : Me) {t i o n : Nat} {x : Nat → Int32} (v : Int32) (hn : (t, i, o) ∈ ns) (hM : M t i o = x) (hct : ∀ y, ctA cy ad t i o y = .inl (cy 0, n, .inl y)) (hN : n < 2147483648) :
    Cv l yJ7_fill_53178 (.code yJ7_fill_53178 cJ7_fill_53178 4 none :: tk_tb) { frames := 0, cells := 0, slots := 0, locals := 0 } D cy ad ns [.ref (ad t i o), .int v] M (uC M t i o (fl n v x)) := by
  refine Cv.of (by decide) (Nat.le_of_ble_eq_true rfl) ?_
  intro p e s m below meth c ls hE hW hl
  obtain ⟨hx, hb, hr, hml, hown, hts, hlk, hK⟩ := hE
  have hl : lv_has ls 4 [(0, .ref (ad t i o)), (1, .int v)] := hl
  have Lp : ∀ (d k : Nat), k + d = n → ∀ (H : Heap) (locs : List Loc) (ls : Array Slot), Wl D cy ad ns (Aw ad ns s.heap.size) s.heap (uC M t i o (fl k v x)) H locs → lv_has ls 4 [(0, .ref (ad t i o)), (1, .int v), (2, .int (nI k)), (3, .int (nI n))] → W p l e { frames := 0, cells := 0, slots := 0, locals := 0 } s m ([.ref (ad t i o), .int v] : List Value).toArray below meth c H locs 0 0 (QV below D cy ad ns [.ref (ad t i o), .int v] s (uC M t i o (fl n v x))) (F0 m 5 ls []) := by
    intro d
    induction d with
    | zero =>
      intro k hk H locs ls hW hl
      have hk : k = n := hk
      subst hk
      refine lv_iload_n hx hb dJ7_fill_53178_5 rfl (lv_at hl 2 rfl) ?_
      refine lv_iload_n hx hb dJ7_fill_53178_6 rfl (lv_at hl 3 rfl) ?_
      refine lv_icmp_ge (tgt := 20) hx hb dJ7_fill_53178_7 (by decide) (fun c1 => ?_) (fun c1 => absurd (nI_le (Nat.le_refl k) hN) c1)
      exact x_vret hx hb hr hlk hK hW rfl dJ7_fill_53178_20
    | succ d ih =>
      intro k hk H locs ls hW hl
      refine lv_iload_n hx hb dJ7_fill_53178_5 rfl (lv_at hl 2 rfl) ?_
      refine lv_iload_n hx hb dJ7_fill_53178_6 rfl (lv_at hl 3 rfl) ?_
      refine lv_icmp_ge (tgt := 20) hx hb dJ7_fill_53178_7 (by decide) (fun c1 => absurd c1 (nI_ge (by omega) hN)) (fun c1 => ?_)
      refine lv_aload_n hx hb dJ7_fill_53178_10 rfl (lv_at hl 0 rfl) ?_
      refine lv_iload_n hx hb dJ7_fill_53178_11 rfl (lv_at hl 2 rfl) ?_
      refine lv_iload_n hx hb dJ7_fill_53178_12 rfl (lv_at hl 1 rfl) ?_
      refine x_iast (M2 := uC M t i o (fl (k + 1) v x)) hx hb hK hW hn uC_at hct (vp_in_nI (by omega) hN) (by rw [nI_clamp (by omega), fl_s, uC_uC]) dJ7_fill_53178_13 (fun H locs hW => ?_)
      refine lv_iinc (v := nI (k + 1)) (lv' := [(2, .int (nI (k + 1))), (0, .ref (ad t i o)), (1, .int v), (3, .int (nI n))]) hx hb dJ7_fill_53178_14 hl (k := 2) rfl (by rw [← nI_1]; rfl) (by decide) rfl (fun ls hl => ?_)
      refine lv_goto (tgt := 5) hx hb dJ7_fill_53178_17 (by decide) ?_
      exact ih (k + 1) (by omega) H locs ls hW (lv_sub hl [1, 2, 0, 3] rfl)
  refine lv_iconst (v := 0) hx hb dJ7_fill_53178_0 (by decide) ?_
  refine lv_istore_n (lv' := [(2, .int 0), (0, .ref (ad t i o)), (1, .int v)]) hx hb dJ7_fill_53178_1 rfl hl (by decide) rfl (fun ls hl => ?_)
  refine lv_aload_n hx hb dJ7_fill_53178_2 rfl (lv_at hl 1 rfl) ?_
  refine x_alen (v := nI n) hx hb hK hW hn rfl (hct _) (by decide) rfl dJ7_fill_53178_3 ?_
  refine lv_istore_n (lv' := [(3, .int (nI n)), (2, .int 0), (0, .ref (ad t i o)), (1, .int v)]) hx hb dJ7_fill_53178_4 rfl hl (by decide) rfl (fun ls hl => ?_)
  exact Lp n 0 (by omega) _ _ _ (by rw [fl_0, ← hM, uC_id]; exact hW) (lv_sub hl [2, 3, 1, 0] rfl)
section XF
variable {p : Program} {l : Launch} {e : Env} {R : Room} {s : State} {m : MethodId} {args : Array Value} {below : List Frame} {meth : Method} {c : Code} {H : Heap} {locs : List Loc} {cells slots : Nat} {Q : State → Prop}
variable {cc : ByteArray} {pc : Nat} {ls : Array Slot} {rest : List Value} {D : va_G} {cy : Nat → ClassId} {ad : Nat → Nat → Nat → Nat} {ns : List (Nat × Nat × Nat)} {A : Nat → Prop} {H0 : Heap} {M : Me}
theorem x_fill {own : String} {index nL : Nat} (hx : p.tables.exec = Jvm.exec) (hb : c.code = cc) (hml : c.maxLocals = nL) (hts : ∀ w ∈ tk_tb, w.before args s = true) (hown : s.vm.findClass own = some m.cls) (hK : va_K D vwCl (tyl cy) s) (hW : Wl D cy ad ns A H0 M H locs) (hA : ∀ q, H0.size ≤ q → A q) {t i o n : Nat} {x : Nat → Int32} {v : Int32} {M2 : Me}
    (hn : (t, i, o) ∈ ns) (hM : M t i o = x) (hct : ∀ z, ctA cy ad t i o z = .inl (cy 0, n, .inl z)) (hN : n < 2147483648) (hM2 : uC M t i o (fl n v x) = M2) (w1 : Cond.methodLink own index yJ7_fill_53178 ∈ tk_tb) (hfr : 0 + 1 ≤ R.frames) (hlo : 8 + (4 + 11) + 0 ≤ R.locals) (hls : ls.size = nL) (hroom : 2 * (F0 m pc ls (.int v :: .ref (ad t i o) :: rest)).monitorRoom + (rest.map fun v => v.category).sum ≤ 8) (hdg : decode cc pc = .ok (.invokestatic index, 3)) (hf : cells ≤ R.cells ∧ slots ≤ R.slots)
    (kk : ∀ (H1 : Heap) (locs1 : List Loc), Wl D cy ad ns A H0 M2 H1 locs1 → W p l e R s m args below meth c H1 locs1 cells slots Q (F0 m (pc + 3) ls rest)) : W p l e R s m args below meth c H locs cells slots Q (F0 m pc ls (.int v :: .ref (ad t i o) :: rest)) := by
  subst hM2
  exact x_sv (n := 2) (As := [.ref (ad t i o), .int v]) (rest := rest) hx hb hml hts hown hK hW hA (fill_ok l D cy ad ns M v hn hM hct hN) w1 t_93 t_8 t_94 rfl (by decide +kernel) rfl rfl ⟨hfr, hlo⟩ hls rfl hroom hdg hf kk
end XF
