def f0_copyFrom (h : Ob) (S : Ob) : Option Ob :=
  ((f7_copyFrom (h 2) (S 2)).bind (fun g2 => (st (va_up S 2 g2) (fun S3 => ((f5_copyFrom 3 (h 3) (S3 3)).bind (fun g6 => (st (va_up S3 3 g6) (fun S7 => (st (va_up S7 1 (va_up (S7 1) 0 (upd (S7 1 0) 3 (h 1 0 3)))) (fun S9 => (st (va_up S9 1 (va_up (S9 1) 0 (upd (S9 1 0) 4 (h 1 0 4)))) (fun S10 => (st (va_up S10 1 (va_up (S10 1) 0 (upd (S10 1 0) 5 (h 1 0 5)))) (fun S11 => (some S11)))))))))))))))
set_option maxHeartbeats 4000000 in
set_option maxRecDepth 100000 in
theorem f0_copyFrom_ok (l : Launch) (D : va_G) (cy : Nat → ClassId) (ad : Nat → Nat → Nat → Nat) (ns : List (Nat × Nat × Nat)) (M : Me) (t : Nat) (hI : IsSt cy ad ns t) (u : Nat) (hne : u ≠ t) (hI2 : IsSt cy ad ns u) (h : Ob) (hO : M u = h) (S : Ob) (m2 : Ob)  (hf : f0_copyFrom h S = some m2) : Cv l yX0_copyFrom (.code yX0_copyFrom cX0_copyFrom 2 none :: tk_tb) { frames := 2, cells := 0, slots := 0, locals := 48 } D cy ad ns [.ref (ad t 1 0), .ref (ad u 1 0)] (va_up M t S) (va_up M t m2) := by
  refine Cv.of (by decide) (Nat.le_of_ble_eq_true rfl) ?_
  intro p e s m below meth c ls hE hW hl
  obtain ⟨hx, hb, hr, hml, hown, hts, hlk, hK⟩ := hE
  have hA : ∀ q : Nat, s.heap.size ≤ q → Aw ad ns s.heap.size q := fun q h => Or.inr h
  have hl : lv_has ls 2 [(0, .ref (ad t 1 0)), (1, .ref (ad u 1 0))] := hl
  unfold f0_copyFrom at hf
  refine lv_aload_n hx hb dX0_copyFrom_0 rfl (lv_at hl 0 rfl) ?_
  refine x_get hx hb hts hown hK hW (hI.2 1 0 (by decide)) up_io (hI.1 1 0 _) rfl inX0 0 (by decide) t_259 rfl dX0_copyFrom_1 ?_
  refine lv_aload_n hx hb dX0_copyFrom_4 rfl (lv_at hl 1 rfl) ?_
  refine x_get hx hb hts hown hK hW (hI2.2 1 0 (by decide)) (up_oth hne hO) (hI2.1 1 0 _) rfl inX0 0 (by decide) t_259 rfl dX0_copyFrom_5 ?_
  obtain ⟨g2, hc1, hf⟩ := bd_some hf
  replace hf := st_some hf
  have hC4 := f7_copyFrom_ok l D cy ad ns (va_up M t S) t 2 (hI.at_2) u hne (hI2.at_2) (h 2) (up_ot2 hne hO) (S 2) g2 hc1
  rw [uI_gid, uI_grp] at hC4
  refine x_vv (n := 1) (As := [.ref (ad u 2 0)]) (rest := []) hx hb hml hts hown hK hW hA hC4 (hI.2 2 0 (by decide)) up_io (hI.1 2 0 _) rfl rfl t_678 t_679 t_680 t_13 t_681 rfl (by decide +kernel) rfl rfl ⟨Nat.le_of_ble_eq_true rfl, Nat.le_of_ble_eq_true rfl⟩ hl.1 rfl (lv_room (Nat.le_of_ble_eq_true rfl)) dX0_copyFrom_8 ⟨(Nat.le_of_ble_eq_true rfl), (Nat.le_of_ble_eq_true rfl)⟩ (fun H locs hW => ?_)
  generalize (va_up S 2 g2) = S3 at hf hW
  refine lv_aload_n hx hb dX0_copyFrom_11 rfl (lv_at hl 0 rfl) ?_
  refine x_get hx hb hts hown hK hW (hI.2 1 0 (by decide)) up_io (hI.1 1 0 _) rfl inX0 1 (by decide) t_262 rfl dX0_copyFrom_12 ?_
  refine lv_aload_n hx hb dX0_copyFrom_15 rfl (lv_at hl 1 rfl) ?_
  refine x_get hx hb hts hown hK hW (hI2.2 1 0 (by decide)) (up_oth hne hO) (hI2.1 1 0 _) rfl inX0 1 (by decide) t_262 rfl dX0_copyFrom_16 ?_
  obtain ⟨g6, hc5, hf⟩ := bd_some hf
  replace hf := st_some hf
  have hC8 := f5_copyFrom_ok l D cy ad ns (va_up M t S3) t 3 3 (by decide) (hI.at_3) u hne (hI2.at_3) (h 3) (up_ot2 hne hO) (S3 3) g6 hc5
  rw [uI_gid, uI_grp] at hC8
  refine x_vv (n := 1) (As := [.ref (ad u 3 0)]) (rest := []) hx hb hml hts hown hK hW hA hC8 (hI.2 3 0 (by decide)) up_io (hI.1 3 0 _) rfl rfl t_685 t_686 t_687 t_6 t_688 rfl (by decide +kernel) rfl rfl ⟨Nat.le_of_ble_eq_true rfl, Nat.le_of_ble_eq_true rfl⟩ hl.1 rfl (lv_room (Nat.le_of_ble_eq_true rfl)) dX0_copyFrom_19 ⟨(Nat.le_of_ble_eq_true rfl), (Nat.le_of_ble_eq_true rfl)⟩ (fun H locs hW => ?_)
  generalize (va_up S3 3 g6) = S7 at hf hW
  refine lv_aload_n hx hb dX0_copyFrom_22 rfl (lv_at hl 0 rfl) ?_
  refine lv_aload_n hx hb dX0_copyFrom_23 rfl (lv_at hl 1 rfl) ?_
  refine x_get hx hb hts hown hK hW (hI2.2 1 0 (by decide)) (up_oth hne hO) (hI2.1 1 0 _) rfl inX0 3 (by decide) t_266 rfl dX0_copyFrom_24 ?_
  replace hf := st_some hf
  refine x_put hx hb hts hown hK hW (hI.2 1 0 (by decide)) up_io (hI.1 1 0 _) rfl inX0 tyX0 tyX0_ok nmX0 3 (by decide) t_266 rfl rfl (Nat.le_of_ble_eq_true rfl) (hI.1 1 0 _) uC_grp dX0_copyFrom_27 (fun H locs hW => ?_)
  generalize (va_up S7 1 (va_up (S7 1) 0 (upd (S7 1 0) 3 (h 1 0 3)))) = S9 at hf hW
  refine lv_aload_n hx hb dX0_copyFrom_30 rfl (lv_at hl 0 rfl) ?_
  refine lv_aload_n hx hb dX0_copyFrom_31 rfl (lv_at hl 1 rfl) ?_
  refine x_get hx hb hts hown hK hW (hI2.2 1 0 (by decide)) (up_oth hne hO) (hI2.1 1 0 _) rfl inX0 4 (by decide) t_267 rfl dX0_copyFrom_32 ?_
  replace hf := st_some hf
  refine x_put hx hb hts hown hK hW (hI.2 1 0 (by decide)) up_io (hI.1 1 0 _) rfl inX0 tyX0 tyX0_ok nmX0 4 (by decide) t_267 rfl rfl (Nat.le_of_ble_eq_true rfl) (hI.1 1 0 _) uC_grp dX0_copyFrom_35 (fun H locs hW => ?_)
  generalize (va_up S9 1 (va_up (S9 1) 0 (upd (S9 1 0) 4 (h 1 0 4)))) = S10 at hf hW
  refine lv_aload_n hx hb dX0_copyFrom_38 rfl (lv_at hl 0 rfl) ?_
  refine lv_aload_n hx hb dX0_copyFrom_39 rfl (lv_at hl 1 rfl) ?_
  refine x_get hx hb hts hown hK hW (hI2.2 1 0 (by decide)) (up_oth hne hO) (hI2.1 1 0 _) rfl inX0 5 (by decide) t_269 rfl dX0_copyFrom_40 ?_
  replace hf := st_some hf
  refine x_put hx hb hts hown hK hW (hI.2 1 0 (by decide)) up_io (hI.1 1 0 _) rfl inX0 tyX0 tyX0_ok nmX0 5 (by decide) t_269 rfl rfl (Nat.le_of_ble_eq_true rfl) (hI.1 1 0 _) uC_grp dX0_copyFrom_43 (fun H locs hW => ?_)
  generalize (va_up S10 1 (va_up (S10 1) 0 (upd (S10 1 0) 5 (h 1 0 5)))) = S11 at hf hW
  exact x_vret hx hb hr hlk hK hW (congrArg (fun q => (va_up M t q)) (Option.some.inj hf)) dX0_copyFrom_46
def f8_copyFrom (h : Ob) (S : Ob) : Option Ob :=
  ((f0_copyFrom h S).bind (fun S2 => ((f9_copyFrom (h 4) (S2 4)).bind (fun g5 => (st (va_up S2 4 g5) (fun S6 => ((f1_copyFrom (h 5) (S6 5)).bind (fun g9 => (st (va_up S6 5 g9) (fun S10 => (st (va_up S10 0 (va_up (S10 0) 0 (upd (S10 0 0) 3 (h 0 0 3)))) (fun S12 => (st (va_up S12 0 (va_up (S12 0) 0 (upd (S12 0 0) 4 (h 0 0 4)))) (fun S13 => (some S13)))))))))))))))
set_option maxHeartbeats 4000000 in
set_option maxRecDepth 100000 in
theorem f8_copyFrom_ok (l : Launch) (D : va_G) (cy : Nat → ClassId) (ad : Nat → Nat → Nat → Nat) (ns : List (Nat × Nat × Nat)) (M : Me) (t : Nat) (hI : IsSt cy ad ns t) (u : Nat) (hne : u ≠ t) (hI2 : IsSt cy ad ns u) (h : Ob) (hO : M u = h) (S : Ob) (m2 : Ob)  (hf : f8_copyFrom h S = some m2) : Cv l yX8_copyFrom (.code yX8_copyFrom cX8_copyFrom 2 none :: tk_tb) { frames := 3, cells := 0, slots := 0, locals := 69 } D cy ad ns [.ref (ad t 0 0), .ref (ad u 0 0)] (va_up M t S) (va_up M t m2) := by
  refine Cv.of (by decide) (Nat.le_of_ble_eq_true rfl) ?_
  intro p e s m below meth c ls hE hW hl
  obtain ⟨hx, hb, hr, hml, hown, hts, hlk, hK⟩ := hE
  have hA : ∀ q : Nat, s.heap.size ≤ q → Aw ad ns s.heap.size q := fun q h => Or.inr h
  have hl : lv_has ls 2 [(0, .ref (ad t 0 0)), (1, .ref (ad u 0 0))] := hl
  unfold f8_copyFrom at hf
  refine lv_aload_n hx hb dX8_copyFrom_0 rfl (lv_at hl 0 rfl) ?_
  refine x_get hx hb hts hown hK hW (hI.2 0 0 (by decide)) up_io (hI.1 0 0 _) rfl inX8 0 (by decide) t_284 rfl dX8_copyFrom_1 ?_
  refine lv_aload_n hx hb dX8_copyFrom_4 rfl (lv_at hl 1 rfl) ?_
  refine x_get hx hb hts hown hK hW (hI2.2 0 0 (by decide)) (up_oth hne hO) (hI2.1 0 0 _) rfl inX8 0 (by decide) t_284 rfl dX8_copyFrom_5 ?_
  obtain ⟨S2, hc1, hf⟩ := bd_some hf
  have hC3 := f0_copyFrom_ok l D cy ad ns M t hI u hne hI2 h hO S S2 hc1
  refine x_vv (n := 1) (As := [.ref (ad u 1 0)]) (rest := []) hx hb hml hts hown hK hW hA hC3 (hI.2 1 0 (by decide)) up_io (hI.1 1 0 _) rfl rfl t_674 t_675 t_676 t_12 t_677 rfl (by decide +kernel) rfl rfl ⟨Nat.le_of_ble_eq_true rfl, Nat.le_of_ble_eq_true rfl⟩ hl.1 rfl (lv_room (Nat.le_of_ble_eq_true rfl)) dX8_copyFrom_8 ⟨(Nat.le_of_ble_eq_true rfl), (Nat.le_of_ble_eq_true rfl)⟩ (fun H locs hW => ?_)
  refine lv_aload_n hx hb dX8_copyFrom_11 rfl (lv_at hl 0 rfl) ?_
  refine x_get hx hb hts hown hK hW (hI.2 0 0 (by decide)) up_io (hI.1 0 0 _) rfl inX8 1 (by decide) t_286 rfl dX8_copyFrom_12 ?_
  refine lv_aload_n hx hb dX8_copyFrom_15 rfl (lv_at hl 1 rfl) ?_
  refine x_get hx hb hts hown hK hW (hI2.2 0 0 (by decide)) (up_oth hne hO) (hI2.1 0 0 _) rfl inX8 1 (by decide) t_286 rfl dX8_copyFrom_16 ?_
  obtain ⟨g5, hc4, hf⟩ := bd_some hf
  replace hf := st_some hf
  have hC7 := f9_copyFrom_ok l D cy ad ns (va_up M t S2) t 4 (hI.at_4) u hne (hI2.at_4) (h 4) (up_ot2 hne hO) (S2 4) g5 hc4
  rw [uI_gid, uI_grp] at hC7
  refine x_vv (n := 1) (As := [.ref (ad u 4 0)]) (rest := []) hx hb hml hts hown hK hW hA hC7 (hI.2 4 0 (by decide)) up_io (hI.1 4 0 _) rfl rfl t_690 t_691 t_692 t_10 t_693 rfl (by decide +kernel) rfl rfl ⟨Nat.le_of_ble_eq_true rfl, Nat.le_of_ble_eq_true rfl⟩ hl.1 rfl (lv_room (Nat.le_of_ble_eq_true rfl)) dX8_copyFrom_19 ⟨(Nat.le_of_ble_eq_true rfl), (Nat.le_of_ble_eq_true rfl)⟩ (fun H locs hW => ?_)
  generalize (va_up S2 4 g5) = S6 at hf hW
  refine lv_aload_n hx hb dX8_copyFrom_22 rfl (lv_at hl 0 rfl) ?_
  refine x_get hx hb hts hown hK hW (hI.2 0 0 (by decide)) up_io (hI.1 0 0 _) rfl inX8 2 (by decide) t_288 rfl dX8_copyFrom_23 ?_
  refine lv_aload_n hx hb dX8_copyFrom_26 rfl (lv_at hl 1 rfl) ?_
  refine x_get hx hb hts hown hK hW (hI2.2 0 0 (by decide)) (up_oth hne hO) (hI2.1 0 0 _) rfl inX8 2 (by decide) t_288 rfl dX8_copyFrom_27 ?_
  obtain ⟨g9, hc8, hf⟩ := bd_some hf
  replace hf := st_some hf
  have hC11 := f1_copyFrom_ok l D cy ad ns (va_up M t S6) t 5 (hI.at_5) u hne (hI2.at_5) (h 5) (up_ot2 hne hO) (S6 5) g9 hc8
  rw [uI_gid, uI_grp] at hC11
  refine x_vv (n := 1) (As := [.ref (ad u 5 0)]) (rest := []) hx hb hml hts hown hK hW hA hC11 (hI.2 5 0 (by decide)) up_io (hI.1 5 0 _) rfl rfl t_695 t_696 t_697 t_11 t_698 rfl (by decide +kernel) rfl rfl ⟨Nat.le_of_ble_eq_true rfl, Nat.le_of_ble_eq_true rfl⟩ hl.1 rfl (lv_room (Nat.le_of_ble_eq_true rfl)) dX8_copyFrom_30 ⟨(Nat.le_of_ble_eq_true rfl), (Nat.le_of_ble_eq_true rfl)⟩ (fun H locs hW => ?_)
  generalize (va_up S6 5 g9) = S10 at hf hW
  refine lv_aload_n hx hb dX8_copyFrom_33 rfl (lv_at hl 0 rfl) ?_
  refine lv_aload_n hx hb dX8_copyFrom_34 rfl (lv_at hl 1 rfl) ?_
  refine x_get hx hb hts hown hK hW (hI2.2 0 0 (by decide)) (up_oth hne hO) (hI2.1 0 0 _) rfl inX8 3 (by decide) t_289 rfl dX8_copyFrom_35 ?_
  replace hf := st_some hf
  refine x_put hx hb hts hown hK hW (hI.2 0 0 (by decide)) up_io (hI.1 0 0 _) rfl inX8 tyX8 tyX8_ok nmX8 3 (by decide) t_289 rfl rfl (Nat.le_of_ble_eq_true rfl) (hI.1 0 0 _) uC_grp dX8_copyFrom_38 (fun H locs hW => ?_)
  generalize (va_up S10 0 (va_up (S10 0) 0 (upd (S10 0 0) 3 (h 0 0 3)))) = S12 at hf hW
  refine lv_aload_n hx hb dX8_copyFrom_41 rfl (lv_at hl 0 rfl) ?_
  refine lv_aload_n hx hb dX8_copyFrom_42 rfl (lv_at hl 1 rfl) ?_
  refine x_get hx hb hts hown hK hW (hI2.2 0 0 (by decide)) (up_oth hne hO) (hI2.1 0 0 _) rfl inX8 4 (by decide) t_291 rfl dX8_copyFrom_43 ?_
  replace hf := st_some hf
  refine x_put hx hb hts hown hK hW (hI.2 0 0 (by decide)) up_io (hI.1 0 0 _) rfl inX8 tyX8 tyX8_ok nmX8 4 (by decide) t_291 rfl rfl (Nat.le_of_ble_eq_true rfl) (hI.1 0 0 _) uC_grp dX8_copyFrom_46 (fun H locs hW => ?_)
  generalize (va_up S12 0 (va_up (S12 0) 0 (upd (S12 0 0) 4 (h 0 0 4)))) = S13 at hf hW
  exact x_vret hx hb hr hlk hK hW (congrArg (fun q => (va_up M t q)) (Option.some.inj hf)) dX8_copyFrom_49
def f3_keptAt (S : Ob) (a1 : Int32) : Option Int32 :=
  (if a1 < 0 then (some (-1 : Int32)) else (if (S 0 0 4) ≤ a1 then (some (-1 : Int32)) else (rd 30 (S 0 4) a1 (fun v4 => (some v4)))))
set_option maxHeartbeats 4000000 in
set_option maxRecDepth 100000 in
theorem f3_keptAt_ok (l : Launch) (D : va_G) (cy : Nat → ClassId) (ad : Nat → Nat → Nat → Nat) (ns : List (Nat × Nat × Nat)) (M : Me) (t : Nat) (hI : IsPl cy ad ns t) (S : Ob) (a1 : Int32) (r : Int32)  (hf : f3_keptAt S a1 = some r) : Ci l yX3_keptAt (.code yX3_keptAt cX3_keptAt 2 (some .int) :: tk_tb) { frames := 0, cells := 0, slots := 0, locals := 0 } D cy ad ns [.ref (ad t 0 0), .int a1] (va_up M t S) r (va_up M t S) := by
  refine Ci.of (by decide) (Nat.le_of_ble_eq_true rfl) ?_
  intro p e s m below meth c ls hE hW hl
  obtain ⟨hx, hb, hr, hml, hown, hts, hlk, hK⟩ := hE
  have hA : ∀ q : Nat, s.heap.size ≤ q → Aw ad ns s.heap.size q := fun q h => Or.inr h
  have hl : lv_has ls 2 [(0, .ref (ad t 0 0)), (1, .int a1)] := hl
  unfold f3_keptAt at hf
  refine lv_iload_n hx hb dX3_keptAt_0 rfl (lv_at hl 1 rfl) ?_
  refine lv_if_lt (tgt := 21) hx hb dX3_keptAt_1 (by decide) (fun c1 => ?_) (fun c1 => ?_)
  · replace hf := (if_pos c1).symm.trans hf
    refine lv_iconst (v := -1) hx hb dX3_keptAt_21 (by decide) ?_
    exact x_iret hx hb hr hlk hK hW (Option.some.inj hf) rfl dX3_keptAt_22
  · replace hf := (if_neg c1).symm.trans hf
    refine lv_iload_n hx hb dX3_keptAt_4 rfl (lv_at hl 1 rfl) ?_
    refine lv_aload_n hx hb dX3_keptAt_5 rfl (lv_at hl 0 rfl) ?_
    refine x_get hx hb hts hown hK hW (hI.2 0 0 (by decide)) up_io (hI.1 0 0 _) rfl inX3 4 (by decide) t_136 rfl dX3_keptAt_6 ?_
    refine lv_icmp_ge (tgt := 21) hx hb dX3_keptAt_9 (by decide) (fun c2 => ?_) (fun c2 => ?_)
    · replace hf := (if_pos c2).symm.trans hf
      refine lv_iconst (v := -1) hx hb dX3_keptAt_21 (by decide) ?_
      exact x_iret hx hb hr hlk hK hW (Option.some.inj hf) rfl dX3_keptAt_22
    · replace hf := (if_neg c2).symm.trans hf
      refine lv_aload_n hx hb dX3_keptAt_12 rfl (lv_at hl 0 rfl) ?_
      refine x_get hx hb hts hown hK hW (hI.2 0 0 (by decide)) up_io (hI.1 0 0 _) rfl inX3 3 (by decide) t_135 rfl dX3_keptAt_13 ?_
      refine lv_iload_n hx hb dX3_keptAt_16 rfl (lv_at hl 1 rfl) ?_
      obtain ⟨hi3, hf⟩ := rd_some hf
      refine x_iald hx hb hK hW (hI.2 0 4 (by decide)) up_io (hI.1 0 4 _) hi3 dX3_keptAt_17 ?_
      generalize S 0 4 (a1).toNatClampNeg = v4 at hf ⊢
      refine lv_goto (tgt := 22) hx hb dX3_keptAt_18 (by decide) ?_
      exact x_iret hx hb hr hlk hK hW (Option.some.inj hf) rfl dX3_keptAt_22
def f3_lookAhead_b15 (h : Sg) (rec15 : Int32 → Int32 → Ob → Option Ob) (w2 : Int32) (w4 : Int32) (S : Ob) : Option Ob :=
  (if w4 < w2 then (some S) else ((f9_keyAt h w4).bind (fun r4 => (rd 100 (S 0 3) r4 (fun v7 => (wr 300 w4 (va_up S 0 (va_up (S 0) 2 (upd (S 0 2) (w4).toNatClampNeg v7))) (fun S9 => (wr 100 r4 (va_up S9 0 (va_up (S9 0) 3 (upd (S9 0 3) (r4).toNatClampNeg w4))) (fun S11 => (rec15 w2 (w4 + (-1 : Int32)) S11))))))))))
def f3_lookAhead_l15 (h : Sg) : Nat → Int32 → Int32 → Ob → Option Ob
  | 0 => fun _ _ _ => none
  | k + 1 => f3_lookAhead_b15 h (f3_lookAhead_l15 h k)
def f3_lookAhead (h : Sg) (a2 : Int32) (a3 : Int32) (S : Ob) : Option Ob :=
  (st (va_up S 0 (va_up (S 0) 3 (fl 100 (300 : Int32) (S 0 3)))) (fun S1 => (f3_lookAhead_l15 h NF a2 (a3 - (1 : Int32)) S1)))
set_option maxHeartbeats 4000000 in
set_option maxRecDepth 100000 in
theorem f3_lookAhead_ok (l : Launch) (D : va_G) (cy : Nat → ClassId) (ad : Nat → Nat → Nat → Nat) (ns : List (Nat × Nat × Nat)) (M : Me) (t : Nat) (hI : IsPl cy ad ns t) (u : Nat) (hne : u ≠ t) (hT : IsTrace cy ad ns u 4) (h : Sg) (hO : M u 4 = h) (S : Ob) (a2 : Int32) (a3 : Int32) (m2 : Ob)  (hf : f3_lookAhead h a2 a3 S = some m2) : Cv l yX3_lookAhead (.code yX3_lookAhead cX3_lookAhead 6 none :: tk_tb) { frames := 1, cells := 0, slots := 0, locals := 23 } D cy ad ns [.ref (ad t 0 0), .ref (ad u 4 0), .int a2, .int a3] (va_up M t S) (va_up M t m2) := by
  refine Cv.of (by decide) (Nat.le_of_ble_eq_true rfl) ?_
  intro p e s m below meth c ls hE hW hl
  obtain ⟨hx, hb, hr, hml, hown, hts, hlk, hK⟩ := hE
  have hA : ∀ q : Nat, s.heap.size ≤ q → Aw ad ns s.heap.size q := fun q h => Or.inr h
  have hl : lv_has ls 6 [(0, .ref (ad t 0 0)), (1, .ref (ad u 4 0)), (2, .int a2), (3, .int a3)] := hl
  unfold f3_lookAhead at hf
  refine lv_aload_n hx hb dX3_lookAhead_0 rfl (lv_at hl 0 rfl) ?_
  refine x_get hx hb hts hown hK hW (hI.2 0 0 (by decide)) up_io (hI.1 0 0 _) rfl inX3 2 (by decide) t_134 rfl dX3_lookAhead_1 ?_
  refine lv_sipush (v := 300) hx hb dX3_lookAhead_4 (by decide) ?_
  replace hf := st_some hf
  refine x_fill hx hb hml hts hown hK hW hA (rest := []) (hI.2 0 3 (by decide)) up_io (fun _ => (hI.1 0 3 _)) (by omega) uC_grp t_571 (Nat.le_of_ble_eq_true rfl) (Nat.le_of_ble_eq_true rfl) hl.1 (lv_room (Nat.le_of_ble_eq_true rfl)) dX3_lookAhead_7 ⟨(Nat.le_of_ble_eq_true rfl), (Nat.le_of_ble_eq_true rfl)⟩ (fun H locs hW => ?_)
  generalize (va_up S 0 (va_up (S 0) 3 (fl 100 (300 : Int32) (S 0 3)))) = S1 at hf hW
  refine lv_iload_n hx hb dX3_lookAhead_10 rfl (lv_at hl 3 rfl) ?_
  refine lv_iconst (v := 1) hx hb dX3_lookAhead_11 (by decide) ?_
  refine lv_isub hx hb dX3_lookAhead_12 ?_
  refine lv_istore (lv' := [(4, .int (a3 - (1 : Int32))), (0, .ref (ad t 0 0)), (1, .ref (ad u 4 0)), (2, .int a2), (3, .int a3)]) hx hb dX3_lookAhead_13 hl (by decide) rfl (fun ls hl => ?_)
  have L15 : ∀ (k : Nat) (w2 : Int32) (w4 : Int32) (S : Ob) (H : Heap) (locs : List Loc) (ls : Array Slot), f3_lookAhead_l15 h k w2 w4 S = some m2 → Wl D cy ad ns (Aw ad ns s.heap.size) s.heap (va_up M t S) H locs → lv_has ls 6 [(0, .ref (ad t 0 0)), (1, .ref (ad u 4 0)), (2, .int w2), (4, .int w4)] → W p l e { frames := 1, cells := 0, slots := 0, locals := 23 } s m ([.ref (ad t 0 0), .ref (ad u 4 0), .int a2, .int a3] : List Value).toArray below meth c H locs 0 0 (QV below D cy ad ns [.ref (ad t 0 0), .ref (ad u 4 0), .int a2, .int a3] s (va_up M t m2)) (F0 m 15 ls []) := by
    intro k
    induction k with
    | zero => intro w2 w4 S H locs ls hf; exact absurd hf (by simp [f3_lookAhead_l15])
    | succ k15 ih15 =>
      intro w2 w4 S H locs ls hf hW hl
      have hf : f3_lookAhead_b15 h (f3_lookAhead_l15 h k15) w2 w4 S = some m2 := hf
      unfold f3_lookAhead_b15 at hf
      refine lv_iload hx hb dX3_lookAhead_15 (lv_at hl 3 rfl) ?_
      refine lv_iload_n hx hb dX3_lookAhead_17 rfl (lv_at hl 2 rfl) ?_
      refine lv_icmp_lt (tgt := 58) hx hb dX3_lookAhead_18 (by decide) (fun c2 => ?_) (fun c2 => ?_)
      · replace hf := (if_pos c2).symm.trans hf
        exact x_vret hx hb hr hlk hK hW (congrArg (fun q => (va_up M t q)) (Option.some.inj hf)) dX3_lookAhead_58
      · replace hf := (if_neg c2).symm.trans hf
        refine lv_aload_n hx hb dX3_lookAhead_21 rfl (lv_at hl 1 rfl) ?_
        refine lv_iload hx hb dX3_lookAhead_22 (lv_at hl 3 rfl) ?_
        obtain ⟨r4, hc3, hf⟩ := bd_some hf
        have hC5 := f9_keyAt_ok l D cy ad ns (va_up M t S) u 4 hT h w4 r4 hc3
        rw [uI_same (up_tr2 hne hO)] at hC5
        refine x_vi (n := 1) (As := [.int w4]) (rest := []) hx hb hml hts hown hK hW hA hC5 (hT.2 0 (by decide)) (up_tr hne hO) (hT.1 0 _) rfl rfl t_572 t_556 t_557 t_10 t_558 rfl (by decide +kernel) rfl rfl ⟨Nat.le_of_ble_eq_true rfl, Nat.le_of_ble_eq_true rfl⟩ hl.1 rfl (lv_room (Nat.le_of_ble_eq_true rfl)) dX3_lookAhead_24 ⟨(Nat.le_of_ble_eq_true rfl), (Nat.le_of_ble_eq_true rfl)⟩ (fun H locs hW => ?_)
        refine lv_istore (lv' := [(5, .int r4), (0, .ref (ad t 0 0)), (1, .ref (ad u 4 0)), (2, .int w2), (4, .int w4)]) hx hb dX3_lookAhead_27 hl (by decide) rfl (fun ls hl => ?_)
        refine lv_aload_n hx hb dX3_lookAhead_29 rfl (lv_at hl 1 rfl) ?_
        refine x_get hx hb hts hown hK hW (hI.2 0 0 (by decide)) up_io (hI.1 0 0 _) rfl inX3 1 (by decide) t_133 rfl dX3_lookAhead_30 ?_
        refine lv_iload hx hb dX3_lookAhead_33 (lv_at hl 4 rfl) ?_
        refine lv_aload_n hx hb dX3_lookAhead_35 rfl (lv_at hl 1 rfl) ?_
        refine x_get hx hb hts hown hK hW (hI.2 0 0 (by decide)) up_io (hI.1 0 0 _) rfl inX3 2 (by decide) t_134 rfl dX3_lookAhead_36 ?_
        refine lv_iload hx hb dX3_lookAhead_39 (lv_at hl 0 rfl) ?_
        obtain ⟨hi6, hf⟩ := rd_some hf
        refine x_iald hx hb hK hW (hI.2 0 3 (by decide)) up_io (hI.1 0 3 _) hi6 dX3_lookAhead_41 ?_
        generalize S 0 3 (r4).toNatClampNeg = v7 at hf ⊢
        obtain ⟨hi8, hf⟩ := wr_some hf
        refine x_iast hx hb hK hW (hI.2 0 2 (by decide)) up_io (fun _ => (hI.1 0 2 _)) hi8 uC_grp dX3_lookAhead_42 (fun H locs hW => ?_)
        generalize (va_up S 0 (va_up (S 0) 2 (upd (S 0 2) (w4).toNatClampNeg v7))) = S9 at hf hW
        refine lv_aload_n hx hb dX3_lookAhead_43 rfl (lv_at hl 1 rfl) ?_
        refine x_get hx hb hts hown hK hW (hI.2 0 0 (by decide)) up_io (hI.1 0 0 _) rfl inX3 2 (by decide) t_134 rfl dX3_lookAhead_44 ?_
        refine lv_iload hx hb dX3_lookAhead_47 (lv_at hl 0 rfl) ?_
        refine lv_iload hx hb dX3_lookAhead_49 (lv_at hl 4 rfl) ?_
        obtain ⟨hi10, hf⟩ := wr_some hf
        refine x_iast hx hb hK hW (hI.2 0 3 (by decide)) up_io (fun _ => (hI.1 0 3 _)) hi10 uC_grp dX3_lookAhead_51 (fun H locs hW => ?_)
        generalize (va_up S9 0 (va_up (S9 0) 3 (upd (S9 0 3) (r4).toNatClampNeg w4))) = S11 at hf hW
        refine lv_iinc (v := (w4 + (-1 : Int32))) (lv' := [(4, .int (w4 + (-1 : Int32))), (5, .int r4), (0, .ref (ad t 0 0)), (1, .ref (ad u 4 0)), (2, .int w2)]) hx hb dX3_lookAhead_52 hl (k := 4) rfl (by first | rfl | decide) (by decide) rfl (fun ls hl => ?_)
        refine lv_goto (tgt := 15) hx hb dX3_lookAhead_55 (by decide) ?_
        exact ih15 _ _ _ _ _ _ hf hW (lv_sub hl [2, 3, 4, 0] rfl)
  exact L15 NF _ _ _ _ _ _ hf hW (lv_sub hl [1, 2, 3, 0] rfl)
