theorem szSt_lt {i o : Nat} (h : o < szSt i) : i < 6 := by
  rcases Nat.lt_or_ge i 6 with h6 | h6
  · exact h6
  · obtain ⟨k, rfl⟩ : ∃ k, i = k + 6 := ⟨i - 6, by omega⟩
    exact absurd h (Nat.not_lt_zero o)
theorem up_same {α : Type} {f : Nat → α} {k : Nat} {v : α} (h : f k = v) : va_up f k v = f := by rw [← h, up_id]
theorem lt4_of {a : Int32} (h : vp_in a 4) : a < 4 := by
  rw [Int32.lt_iff_toInt_lt]
  exact (vp_in_iff.mp h).2
section XV
variable {p : Program} {l : Launch} {e : Env} {R : Room} {s : State} {m : MethodId} {args : Array Value} {below : List Frame} {meth : Method} {c : Code} {H : Heap} {locs : List Loc} {cells slots : Nat} {Q : State → Prop}
variable {cc : ByteArray} {pc : Nat} {ls : Array Slot} {rest : List Value} {D : va_G} {cy : Nat → ClassId} {ad : Nat → Nat → Nat → Nat} {ns : List (Nat × Nat × Nat)} {A : Nat → Prop} {H0 : Heap} {M : Me}
theorem x_asts (hx : p.tables.exec = Jvm.exec) (hb : c.code = cc) (hK : va_K D vwCl (tyl cy) s) (hI6 : IsMain cy ad ns 6 0) {u : Nat} (hIu : IsSt cy ad ns u) {j : Int32} (hu : j.toNatClampNeg + 1 = u) (hW : Wl D cy ad ns A H0 M H locs) (hin : vp_in j 4) (hdg : decode cc pc = .ok (.aastore, 1))
    (kk : ∀ (H1 : Heap) (locs1 : List Loc), Wl D cy ad ns A H0 (uC M 6 0 1 (upd (M 6 0 1) j.toNatClampNeg 1)) H1 locs1 → W p l e R s m args below meth c H1 locs1 cells slots Q (F0 m (pc + 1) ls rest)) : W p l e R s m args below meth c H locs cells slots Q (F0 m pc ls (.ref (ad u 0 0) :: .int j :: .ref (ad 6 0 1) :: rest)) := by
  obtain ⟨q, h⟩ := wl_get (cy := cy) (ad := ad) (M := M) (hI6.2 1 (by decide))
  rw [hI6.1] at h
  have h : (wl cy ad ns M)[q]? = some (ad 6 0 1, .inl (cy 3, 4, rA (fun r => if r < 4 then (if M 6 0 1 r = 1 then some (ad (r + 1) 0 0) else none) else none))) := h
  obtain ⟨qk, hk⟩ := wl_get (cy := cy) (ad := ad) (M := M) (hIu.2 0 0 (by decide))
  rw [hIu.1] at hk
  have hk : (wl cy ad ns M)[qk]? = some (ad u 0 0, .inr (7, [.ref (ad u 1 0), .ref (ad u 4 0), .ref (ad u 5 0), .int (M u 0 0 3), .int (M u 0 0 4)])) := hk
  refine va_astq hx hb hK hW.1 hW.2.1 hW.2.2 q 3 qk 7 h rfl hk rfl hin hdg (fun H1 locs1 hP hD hS => ?_)
  have hlt := vp_lt hin
  have ec : va_up (fun r => if r < 4 then (if M 6 0 1 r = 1 then some (ad (r + 1) 0 0) else none) else none) j.toNatClampNeg (some (ad u 0 0)) = (fun r => if r < 4 then (if upd (M 6 0 1) j.toNatClampNeg 1 r = 1 then some (ad (r + 1) 0 0) else none) else none) := by
    funext r
    by_cases hr : r = j.toNatClampNeg
    · subst hr
      simp [va_up, upd, hlt, hu]
    · simp [va_up, upd, hr]
  rw [ec] at hP hD
  have e := wl_set (x := upd (M 6 0 1) j.toNatClampNeg 1) hW.2.1 (hI6.2 1 (by decide)) h
  rw [hI6.1] at e
  have e : (wl cy ad ns M).set q (ad 6 0 1, .inl (cy 3, 4, rA (fun r => if r < 4 then (if upd (M 6 0 1) j.toNatClampNeg 1 r = 1 then some (ad (r + 1) 0 0) else none) else none))) = wl cy ad ns (uC M 6 0 1 (upd (M 6 0 1) j.toNatClampNeg 1)) := e
  rw [e] at hP hD
  exact kk H1 locs1 ⟨hP, hD, hS⟩
end XV
theorem uC_grpne {M : Me} {a t i o : Nat} {x : Nat → Int32} (h : a ≠ t) : uC M t i o x a = M a := by
  unfold uC uI
  rw [va_up_ne _ _ h]
theorem uC_up {M : Me} {u : Nat} {S S2 : Ob} {x : Nat → Int32} (h : 6 ≠ u) : va_up (uC (va_up M u S) 6 0 1 x) u S2 = va_up (uC M 6 0 1 x) u S2 := by
  funext a
  by_cases ha : a = u
  · subst ha
    rw [va_up_self, va_up_self]
  · rw [va_up_ne _ _ ha, va_up_ne _ _ ha]
    by_cases h6 : a = 6
    · subst h6
      simp [uC, uI, va_up, h]
    · rw [uC_grpne h6, uC_grpne h6, va_up_ne _ _ ha]
set_option maxHeartbeats 4000000 in
set_option maxRecDepth 100000 in
theorem save_new (l : Launch) (D : va_G) (cy : Nat → ClassId) (ad : Nat → Nat → Nat → Nat) (ns : List (Nat × Nat × Nat)) (hI0 : IsSt cy ad ns 0) (hI6 : IsMain cy ad ns 6 0) (M : Me) (a1 : Int32) (hin : vp_in a1 4) (hk0 : ¬ M 6 0 1 a1.toNatClampNeg = 1) (u : Nat) (hu : a1.toNatClampNeg + 1 = u) (hns : ∀ n ∈ ns, n.1 ≠ u) (h6 : ∀ i o, (6, i, o) ∈ ns → i = 0 ∧ o < 2) (m3 : Sg) (hf3 : kRows3_B gz = some m3) (m4 : Sg) (hf4 : kSketch_B (gSk (if (1 : Int32) < (if (M 6 0 0 0) < (4 : Int32) then (M 6 0 0 0) else (4 : Int32)) then (if (M 6 0 0 0) < (4 : Int32) then (M 6 0 0 0) else (4 : Int32)) else (1 : Int32))) = some m4) (S2 : Ob) (hf : f8_copyFrom (M 0) (Sinit m3 m4 (M 6 0 0 1) (M 6 0 0 2)) = some S2) :
    ∀ sz : Nat, Met l yX10_save (.code yX10_save cX10_save 2 (some .int) :: tk_tb) { frames := 4, cells := 30, slots := 1939, locals := 91 } (va_Pc [.ref (ad 6 0 0), .int a1] (fun U => U.heap.size = sz ∧ Wo D cy ad ns M U ∧ Xt (Aw ad ns sz) U U.heap)) (va_Qi (fun (r : Int32) (ad2 : Nat → Nat → Nat → Nat) => r = M 0 0 0 3 ∧ ∀ a, a ≠ u → ad a = ad2 a) (fun ad2 U => Wo D cy ad2 (ns ++ NSst u) (va_up (uC M 6 0 1 (upd (M 6 0 1) a1.toNatClampNeg 1)) u S2) U ∧ va_D (Aw ad ns sz) (wl cy ad2 (ns ++ NSst u) (va_up (uC M 6 0 1 (upd (M 6 0 1) a1.toNatClampNeg 1)) u S2))) (Aw ad ns sz)) 30 1939 (Aw ad ns sz) := by
  intro sz
  refine Met.ofW (cc := cX10_save) (maxL := 2) (ret := some .int) (by decide) rfl ?_
  intro p e s m args below meth c s₁ B hml hv
  obtain ⟨rfl, hsz, ⟨hP, hK, hD0⟩, hX⟩ := hv
  subst hsz
  have hx := B.exec
  have hb := B.bytes
  have hr := B.returns
  have hlk := B.notSynchronized
  have hts0 := atoms_spec (ws := Cond.code yX10_save cX10_save 2 (some .int) :: tk_tb) B.pre
  have hts : ∀ w ∈ tk_tb, w.before ([.ref (ad 6 0 0), .int a1] : List Value).toArray s = true := fun w h => hts0 w (List.mem_cons_of_mem _ h)
  have hown : s.vm.findClass RX10 = some m.cls := findClass_of_methodNamed B.named
  have hl := lv_entry [.ref (ad 6 0 0), .int a1] (n := 2) (Nat.le_of_ble_eq_true rfl)
  rw [lg_entry_eq]
  generalize (lg_sl [.ref (ad 6 0 0), .int a1] ++ List.replicate (2 - (lg_sl [.ref (ad 6 0 0), .int a1]).length) Slot.unset).toArray = ls at hl ⊢
  have hl : lv_has ls 2 [(0, .ref (ad 6 0 0)), (1, .int a1)] := hl
  have hA : ∀ q : Nat, s.heap.size ≤ q → Aw ad ns s.heap.size q := fun q h => Or.inr h
  have hW : Wl D cy ad ns (Aw ad ns s.heap.size) s.heap M s.heap [] := ⟨hP, wl_apart hD0 (fun n hn => Or.inl ⟨n, hn, rfl⟩), va_S.rf⟩
  have hlt := vp_lt hin
  have hnn : ¬ a1 < 0 := fun h => hin (Or.inl h)
  have hu0 : 0 < u := by omega
  have hu5 : u < 5 := by omega
  refine lv_iload_n hx hb dX10_save_0 rfl (lv_at hl 1 rfl) ?_
  refine lv_if_lt (tgt := 9) hx hb dX10_save_1 (by decide) (fun c1 => absurd c1 hnn) (fun _ => ?_)
  refine lv_iload_n hx hb dX10_save_4 rfl (lv_at hl 1 rfl) ?_
  refine lv_iconst (v := 4) hx hb dX10_save_5 (by decide) ?_
  refine lv_icmp_lt (tgt := 12) hx hb dX10_save_6 (by decide) (fun _ => ?_) (fun c1 => absurd (lt4_of hin) c1)
  refine lv_aload_n hx hb dX10_save_12 rfl (lv_at hl 0 rfl) ?_
  refine x_get hx hb hts hown hK hW (hI6.2 0 (by decide)) rfl (hI6.1 0 _) rfl inX10 4 (by decide) t_307 rfl dX10_save_13 ?_
  refine lv_iload_n hx hb dX10_save_16 rfl (lv_at hl 1 rfl) ?_
  refine x_aals0 hx hb hK hI6 hW hin hk0 dX10_save_17 ?_
  refine lv_ifnonnullN hx hb dX10_save_18 ?_
  refine lv_aload_n hx hb dX10_save_21 rfl (lv_at hl 0 rfl) ?_
  refine x_get hx hb hts hown hK hW (hI6.2 0 (by decide)) rfl (hI6.1 0 _) rfl inX10 4 (by decide) t_307 rfl dX10_save_22 ?_
  refine lv_iload_n hx hb dX10_save_25 rfl (lv_at hl 1 rfl) ?_
  refine va_new (ci := 7) (fs := [.null, .null, .null, .int 0, .int 0]) (C := RX8) (T := TX8) (N := 5) hx hb hts inX8 tyX8 tyX8_ok hown (hts _ t_24) (hts _ t_152) (hts _ t_9) hK hW.1 hW.2.1 hW.2.2 hA rfl (fun j hj => by rcases (show j = 0 ∨ j = 1 ∨ j = 2 ∨ j = 3 ∨ j = 4 by omega) with rfl | rfl | rfl | rfl | rfl <;> rfl) (Nat.le_of_ble_eq_true rfl) (Nat.le_of_ble_eq_true rfl) dX10_save_26 (fun q H hP hD hS => ?_)
  refine lv_dup hx hb dX10_save_29 rfl ?_
  obtain ⟨q6, hq6⟩ := wl_get (cy := cy) (ad := ad) (M := M) (hI6.2 0 (by decide))
  rw [hI6.1] at hq6
  have hq6 : (wl cy ad ns M ++ [(q, .inr (7, [.null, .null, .null, .int 0, .int 0]))])[q6]? = some (ad 6 0 0, .inr (9, [.int (M 6 0 0 0), .int (M 6 0 0 1), .int (M 6 0 0 2), .ref (ad 0 0 0), .ref (ad 6 0 1), .ref (ad 5 0 0)])) := by
    rw [List.getElem?_append_left (List.getElem?_eq_some_iff.mp hq6).1]
    exact hq6
  refine lv_aload_n hx hb dX10_save_30 rfl (lv_at hl 0 rfl) ?_
  refine va_get (D := D) (ci := 9) (v := .int (M 6 0 0 0)) (C := RX10) (T := TX10) (N := 6) hx hb hts inX10 hown hK hP q6 hq6 rfl 0 (by decide) (hts _ t_303) (fun _ h9 => h9) rfl dX10_save_31 ?_
  refine lv_aload_n hx hb dX10_save_34 rfl (lv_at hl 0 rfl) ?_
  refine va_get (D := D) (ci := 9) (v := .int (M 6 0 0 1)) (C := RX10) (T := TX10) (N := 6) hx hb hts inX10 hown hK hP q6 hq6 rfl 1 (by decide) (hts _ t_304) (fun _ h9 => h9) rfl dX10_save_35 ?_
  refine lv_aload_n hx hb dX10_save_38 rfl (lv_at hl 0 rfl) ?_
  refine va_get (D := D) (ci := 9) (v := .int (M 6 0 0 2)) (C := RX10) (T := TX10) (N := 6) hx hb hts inX10 hown hK hP q6 hq6 rfl 2 (by decide) (hts _ t_305) (fun _ h9 => h9) rfl dX10_save_39 ?_
  have f3 : va_up M u (Sinit m3 m4 (M 6 0 0 1) (M 6 0 0 2)) u 3 = m3 := by rw [va_up_self]; rfl
  have f2 : va_up M u (Sinit m3 m4 (M 6 0 0 1) (M 6 0 0 2)) u 2 = m4 := by rw [va_up_self]; rfl
  have f1 : va_up M u (Sinit m3 m4 (M 6 0 0 1) (M 6 0 0 2)) u 1 = gCa (M 6 0 0 1) (M 6 0 0 2) := by rw [va_up_self]; rfl
  have f4 : va_up M u (Sinit m3 m4 (M 6 0 0 1) (M 6 0 0 2)) u 4 = gz := by rw [va_up_self]; rfl
  have f5 : va_up M u (Sinit m3 m4 (M 6 0 0 1) (M 6 0 0 2)) u 5 = gCl := by rw [va_up_self]; rfl
  have f0 : va_up M u (Sinit m3 m4 (M 6 0 0 1) (M 6 0 0 2)) u 0 = gz := by rw [va_up_self]; rfl
  refine y_ci (X := wl cy ad ns M) (n := 3) (As := [.int (M 6 0 0 0), .int (M 6 0 0 1), .int (M 6 0 0 2)]) (rest := [.ref q, .int a1, .ref (ad 6 0 1)]) hx hb hml hts hown hK hX hP hD hS hA (kState_ok l D cy (va_up M u (Sinit m3 m4 (M 6 0 0 1) (M 6 0 0 2))) u hu5 q (M 6 0 0 0) (M 6 0 0 1) (M 6 0 0 2) m3 hf3 f3 m4 hf4 f2 f1 f4 f5 f0) rfl t_153 t_154 t_9 t_155 rfl (by decide +kernel) rfl rfl ⟨Nat.le_of_ble_eq_true rfl, Nat.le_of_ble_eq_true rfl⟩ hl.1 rfl (lv_room (Nat.le_of_ble_eq_true rfl)) dX10_save_42 ⟨Nat.le_of_ble_eq_true rfl, Nat.le_of_ble_eq_true rfl⟩ (fun ad2 H locs ha hPn hDn hSn => ?_)
  have ha : ad2 u 0 0 = q := ha
  subst ha
  obtain ⟨ad3, e3, e3u⟩ : ∃ f : Nat → Nat → Nat → Nat, (∀ a, a ≠ u → ad a = f a) ∧ ad2 u = f u := ⟨fun a => if a = u then ad2 a else ad a, fun a ha => by simp [ha], by simp⟩
  have ew : wl cy ad ns M ++ wl cy ad2 (NSst u) (va_up M u (Sinit m3 m4 (M 6 0 0 1) (M 6 0 0 2))) = wl cy ad3 (ns ++ NSst u) (va_up M u (Sinit m3 m4 (M 6 0 0 1) (M 6 0 0 2))) := by
    rw [wl_app, wl_over hu0 hu5 e3 (fun a ha => (va_up_ne _ _ ha).symm) hns (fun i o h => (h6 i o h).1) (fun o h ho => ?_), wl_one hu5 e3u]
    have h2 := (h6 0 o h).2
    rw [show o = 1 by omega, show u - 1 = a1.toNatClampNeg by omega]
    exact hk0
  have hPn : va_P D vwCl (wl cy ad ns M ++ wl cy ad2 (NSst u) (va_up M u (Sinit m3 m4 (M 6 0 0 1) (M 6 0 0 2)))) H := hPn
  have hDn : va_D (Aw ad ns s.heap.size) (wl cy ad ns M ++ wl cy ad2 (NSst u) (va_up M u (Sinit m3 m4 (M 6 0 0 1) (M 6 0 0 2)))) := hDn
  rw [ew] at hPn hDn
  have hW : Wl D cy ad3 (ns ++ NSst u) (Aw ad ns s.heap.size) s.heap (va_up M u (Sinit m3 m4 (M 6 0 0 1) (M 6 0 0 2))) H locs := ⟨hPn, hDn, hSn⟩
  have hJ6 : IsMain cy ad3 (ns ++ NSst u) 6 0 := ⟨fun o x => rfl, fun o ho => List.mem_append_left _ (hI6.2 o ho)⟩
  have hJ0 : IsSt cy ad3 (ns ++ NSst u) 0 := ⟨fun i o x => ct_lt (by decide), fun i o ho => List.mem_append_left _ (hI0.2 i o ho)⟩
  have hJu : IsSt cy ad3 (ns ++ NSst u) u := ⟨fun i o x => ct_lt hu5, fun i o ho => List.mem_append_right _ (NSst_in ho (szSt_lt ho))⟩
  have e6 : ad 6 = ad3 6 := e3 6 (by omega)
  rw [e6] at hl hts
  rw [e3u, e6]
  refine x_asts hx hb hK hJ6 hJu hu hW hin dX10_save_45 (fun H locs hW => ?_)
  have hM6 : va_up M u (Sinit m3 m4 (M 6 0 0 1) (M 6 0 0 2)) 6 = M 6 := va_up_ne _ _ (by omega)
  rw [hM6] at hW
  obtain ⟨M5, hM5⟩ : ∃ z, z = uC (va_up M u (Sinit m3 m4 (M 6 0 0 1) (M 6 0 0 2))) 6 0 1 (upd (M 6 0 1) a1.toNatClampNeg 1) := ⟨_, rfl⟩
  rw [← hM5] at hW
  have g0 : M5 0 = M 0 := by rw [hM5, uC_grpne (by omega), va_up_ne _ _ (by omega)]
  have gu : M5 u = (Sinit m3 m4 (M 6 0 0 1) (M 6 0 0 2)) := by rw [hM5, uC_grpne (by omega), va_up_self]
  have g6 : M5 6 0 1 a1.toNatClampNeg = 1 := by rw [hM5, uC_at]; simp [upd]
  refine lv_aload_n hx hb dX10_save_46 rfl (lv_at hl 0 rfl) ?_
  refine x_get hx hb hts hown hK hW (hJ6.2 0 (by decide)) rfl (hJ6.1 0 _) rfl inX10 4 (by decide) t_307 rfl dX10_save_47 ?_
  refine lv_iload_n hx hb dX10_save_50 rfl (lv_at hl 1 rfl) ?_
  refine x_aals1 hx hb hK hJ6 hW hin g6 dX10_save_51 ?_
  rw [hu]
  refine lv_aload_n hx hb dX10_save_52 rfl (lv_at hl 0 rfl) ?_
  refine x_get hx hb hts hown hK hW (hJ6.2 0 (by decide)) rfl (hJ6.1 0 _) rfl inX10 3 (by decide) t_306 rfl dX10_save_53 ?_
  have hC := f8_copyFrom_ok l D cy ad3 (ns ++ NSst u) M5 u hJu 0 (by omega) hJ0 (M 0) g0 (Sinit m3 m4 (M 6 0 0 1) (M 6 0 0 2)) S2 hf
  rw [up_same gu] at hC
  refine x_vv (n := 1) (As := [.ref (ad3 0 0 0)]) (rest := []) hx hb hml hts hown hK hW hA hC (hJu.2 0 0 (by decide)) rfl (hJu.1 0 0 _) rfl rfl t_670 t_671 t_672 t_9 t_673 rfl (by decide +kernel) rfl rfl ⟨Nat.le_of_ble_eq_true rfl, Nat.le_of_ble_eq_true rfl⟩ hl.1 rfl (lv_room (Nat.le_of_ble_eq_true rfl)) dX10_save_56 ⟨Nat.le_of_ble_eq_true rfl, Nat.le_of_ble_eq_true rfl⟩ (fun H locs hW => ?_)
  refine lv_aload_n hx hb dX10_save_59 rfl (lv_at hl 0 rfl) ?_
  refine x_get hx hb hts hown hK hW (hJ6.2 0 (by decide)) rfl (hJ6.1 0 _) rfl inX10 3 (by decide) t_306 rfl dX10_save_60 ?_
  refine x_get hx hb hts hown hK hW (hJ0.2 0 0 (by decide)) rfl (hJ0.1 0 0 _) rfl inX8 3 (by decide) t_290 rfl dX10_save_63 ?_
  have ev : va_up M5 u S2 0 0 0 3 = M 0 0 0 3 := by rw [va_up_ne _ _ (by omega), g0]
  have em : va_up M5 u S2 = va_up (uC M 6 0 1 (upd (M 6 0 1) a1.toNatClampNeg 1)) u S2 := by rw [hM5, uC_up (by omega)]
  rw [ev]
  rw [em] at hW
  exact W.iret hx hb hr (fun t ht hW2 => ⟨⟨_, ad3, rfl, ⟨rfl, e3⟩, ⟨by rw [ht]; exact hW.1, va_K.moved hW2.alike hK, hW.2.1.weaken (fun _ _ _ _ => trivial)⟩, hW.2.1⟩, hW.2.2.F ht⟩) hW.2.2.2.2 dX10_save_66 hlk
