def f7_forgetIfChanged (a1 : Int32) (a2 : Int32) (g : Sg) : Option Sg :=
  (if a1 = a2 then (some g) else (st (va_up g 5 (fl 100 (0 : Int32) (g 5))) (fun g2 => (some g2))))
set_option maxHeartbeats 4000000 in
set_option maxRecDepth 100000 in
theorem f7_forgetIfChanged_ok (l : Launch) (D : va_G) (cy : Nat → ClassId) (ad : Nat → Nat → Nat → Nat) (ns : List (Nat × Nat × Nat)) (M : Me) (t i : Nat) (hI : IsSketch cy ad ns t i) (g : Sg) (a1 : Int32) (a2 : Int32) (m2 : Sg)  (hf : f7_forgetIfChanged a1 a2 g = some m2) : Cv l yX7_forgetIfChanged (.code yX7_forgetIfChanged cX7_forgetIfChanged 3 none :: tk_tb) { frames := 1, cells := 0, slots := 0, locals := 23 } D cy ad ns [.ref (ad t i 0), .int a1, .int a2] (uI M t i g) (uI M t i m2) := by
  refine Cv.of (by decide) (Nat.le_of_ble_eq_true rfl) ?_
  intro p e s m below meth c ls hE hW hl
  obtain ⟨hx, hb, hr, hml, hown, hts, hlk, hK⟩ := hE
  have hA : ∀ q : Nat, s.heap.size ≤ q → Aw ad ns s.heap.size q := fun q h => Or.inr h
  have hl : lv_has ls 3 [(0, .ref (ad t i 0)), (1, .int a1), (2, .int a2)] := hl
  unfold f7_forgetIfChanged at hf
  refine lv_iload_n hx hb dX7_forgetIfChanged_0 rfl (lv_at hl 1 rfl) ?_
  refine lv_iload_n hx hb dX7_forgetIfChanged_1 rfl (lv_at hl 2 rfl) ?_
  refine lv_icmp_eq (tgt := 13) hx hb dX7_forgetIfChanged_2 (by decide) (fun c1 => ?_) (fun c1 => ?_)
  · replace hf := (if_pos c1).symm.trans hf
    exact x_vret hx hb hr hlk hK hW (congrArg (fun q => (uI M t i q)) (Option.some.inj hf)) dX7_forgetIfChanged_13
  · replace hf := (if_neg c1).symm.trans hf
    refine lv_aload_n hx hb dX7_forgetIfChanged_5 rfl (lv_at hl 0 rfl) ?_
    refine x_get hx hb hts hown hK hW (hI.2 0 (by decide)) uI_o (hI.1 0 _) rfl inX7 4 (by decide) t_227 rfl dX7_forgetIfChanged_6 ?_
    refine lv_iconst (v := 0) hx hb dX7_forgetIfChanged_9 (by decide) ?_
    replace hf := st_some hf
    refine x_fill hx hb hml hts hown hK hW hA (rest := []) (hI.2 5 (by decide)) uI_o (fun _ => (hI.1 5 _)) (by omega) uC_leaf t_337 (Nat.le_of_ble_eq_true rfl) (Nat.le_of_ble_eq_true rfl) hl.1 (lv_room (Nat.le_of_ble_eq_true rfl)) dX7_forgetIfChanged_10 ⟨(Nat.le_of_ble_eq_true rfl), (Nat.le_of_ble_eq_true rfl)⟩ (fun H locs hW => ?_)
    generalize (va_up g 5 (fl 100 (0 : Int32) (g 5))) = g2 at hf hW
    exact x_vret hx hb hr hlk hK hW (congrArg (fun q => (uI M t i q)) (Option.some.inj hf)) dX7_forgetIfChanged_13
def f7_tellPlace (a1 : Int32) (a2 : Int32) (a3 : Int32) (g : Sg) : Option (Int32 × Sg) :=
  (ck 4 a1 (rd 100 (g ((a1).toNatClampNeg + 10)) a2 (fun v3 => (ck 4 a1 (wr 100 a2 (va_up g ((a1).toNatClampNeg + 10) (upd (g ((a1).toNatClampNeg + 10)) (a2).toNatClampNeg a3)) (fun g6 => ((f7_forgetIfChanged v3 a3 g6).bind (fun g8 => (some (v3, g8))))))))))
set_option maxHeartbeats 4000000 in
set_option maxRecDepth 100000 in
theorem f7_tellPlace_ok (l : Launch) (D : va_G) (cy : Nat → ClassId) (ad : Nat → Nat → Nat → Nat) (ns : List (Nat × Nat × Nat)) (M : Me) (t i : Nat) (hI : IsSketch cy ad ns t i) (g : Sg) (a1 : Int32) (a2 : Int32) (a3 : Int32) (r : Int32) (m2 : Sg)  (hf : f7_tellPlace a1 a2 a3 g = some (r, m2)) : Ci l yX7_tellPlace (.code yX7_tellPlace cX7_tellPlace 5 (some .int) :: tk_tb) { frames := 2, cells := 0, slots := 0, locals := 45 } D cy ad ns [.ref (ad t i 0), .int a1, .int a2, .int a3] (uI M t i g) r (uI M t i m2) := by
  refine Ci.of (by decide) (Nat.le_of_ble_eq_true rfl) ?_
  intro p e s m below meth c ls hE hW hl
  obtain ⟨hx, hb, hr, hml, hown, hts, hlk, hK⟩ := hE
  have hA : ∀ q : Nat, s.heap.size ≤ q → Aw ad ns s.heap.size q := fun q h => Or.inr h
  have hl : lv_has ls 5 [(0, .ref (ad t i 0)), (1, .int a1), (2, .int a2), (3, .int a3)] := hl
  unfold f7_tellPlace at hf
  refine lv_aload_n hx hb dX7_tellPlace_0 rfl (lv_at hl 0 rfl) ?_
  refine x_get hx hb hts hown hK hW (hI.2 0 (by decide)) uI_o (hI.1 0 _) rfl inX7 2 (by decide) t_225 rfl dX7_tellPlace_1 ?_
  refine lv_iload_n hx hb dX7_tellPlace_4 rfl (lv_at hl 1 rfl) ?_
  obtain ⟨hi1, hf⟩ := ck_some hf
  refine x_aald hx hb hK hW (hI.2 3 (by decide)) uI_o (hI.1 3 _) hi1 dX7_tellPlace_5 ?_
  refine lv_iload_n hx hb dX7_tellPlace_6 rfl (lv_at hl 2 rfl) ?_
  obtain ⟨hi2, hf⟩ := rd_some hf
  refine x_iald hx hb hK hW (hI.2 _ (x_lt (vp_lt hi1) (by decide))) uI_o ((hI.1 _ _).trans (sk10 (ad := ad) (t := t) (i := i) (vp_lt hi1))) hi2 dX7_tellPlace_7 ?_
  generalize g ((a1).toNatClampNeg + 10) (a2).toNatClampNeg = v3 at hf ⊢
  refine lv_istore (lv' := [(4, .int v3), (0, .ref (ad t i 0)), (1, .int a1), (2, .int a2), (3, .int a3)]) hx hb dX7_tellPlace_8 hl (by decide) rfl (fun ls hl => ?_)
  refine lv_aload_n hx hb dX7_tellPlace_10 rfl (lv_at hl 1 rfl) ?_
  refine x_get hx hb hts hown hK hW (hI.2 0 (by decide)) uI_o (hI.1 0 _) rfl inX7 2 (by decide) t_225 rfl dX7_tellPlace_11 ?_
  refine lv_iload_n hx hb dX7_tellPlace_14 rfl (lv_at hl 2 rfl) ?_
  obtain ⟨hi4, hf⟩ := ck_some hf
  refine x_aald hx hb hK hW (hI.2 3 (by decide)) uI_o (hI.1 3 _) hi4 dX7_tellPlace_15 ?_
  refine lv_iload_n hx hb dX7_tellPlace_16 rfl (lv_at hl 3 rfl) ?_
  refine lv_iload_n hx hb dX7_tellPlace_17 rfl (lv_at hl 4 rfl) ?_
  obtain ⟨hi5, hf⟩ := wr_some hf
  refine x_iast hx hb hK hW (hI.2 _ (x_lt (vp_lt hi4) (by decide))) uI_o (fun _ => ((hI.1 _ _).trans (sk10 (ad := ad) (t := t) (i := i) (vp_lt hi4)))) hi5 uC_leaf dX7_tellPlace_18 (fun H locs hW => ?_)
  generalize (va_up g ((a1).toNatClampNeg + 10) (upd (g ((a1).toNatClampNeg + 10)) (a2).toNatClampNeg a3)) = g6 at hf hW
  refine lv_aload_n hx hb dX7_tellPlace_19 rfl (lv_at hl 1 rfl) ?_
  refine lv_iload hx hb dX7_tellPlace_20 (lv_at hl 0 rfl) ?_
  refine lv_iload_n hx hb dX7_tellPlace_22 rfl (lv_at hl 4 rfl) ?_
  obtain ⟨g8, hc7, hf⟩ := bd_some hf
  have hC9 := f7_forgetIfChanged_ok l D cy ad ns M t i hI g6 v3 a3 g8 hc7
  refine x_vv (n := 2) (As := [.int v3, .int a3]) (rest := []) hx hb hml hts hown hK hW hA hC9 (hI.2 0 (by decide)) uI_o (hI.1 0 _) rfl rfl t_333 t_335 p_0 t_13 t_336 rfl (by decide +kernel) rfl rfl ⟨Nat.le_of_ble_eq_true rfl, Nat.le_of_ble_eq_true rfl⟩ hl.1 rfl (lv_room (Nat.le_of_ble_eq_true rfl)) dX7_tellPlace_23 ⟨(Nat.le_of_ble_eq_true rfl), (Nat.le_of_ble_eq_true rfl)⟩ (fun H locs hW => ?_)
  refine lv_iload hx hb dX7_tellPlace_26 (lv_at hl 0 rfl) ?_
  exact x_iret hx hb hr hlk hK hW (congrArg Prod.fst (Option.some.inj hf)) (congrArg (fun q => (uI M t i (Prod.snd q))) (Option.some.inj hf)) dX7_tellPlace_28
def f7_tellBit (a1 : Int32) (a2 : Int32) (a3 : Int32) (g : Sg) : Option (Int32 × Sg) :=
  (ck 2 a1 (rd 100 (g ((a1).toNatClampNeg + 14)) a2 (fun v3 => (ck 2 a1 (wr 100 a2 (va_up g ((a1).toNatClampNeg + 14) (upd (g ((a1).toNatClampNeg + 14)) (a2).toNatClampNeg a3)) (fun g6 => ((f7_forgetIfChanged v3 a3 g6).bind (fun g8 => (some (v3, g8))))))))))
set_option maxHeartbeats 4000000 in
set_option maxRecDepth 100000 in
theorem f7_tellBit_ok (l : Launch) (D : va_G) (cy : Nat → ClassId) (ad : Nat → Nat → Nat → Nat) (ns : List (Nat × Nat × Nat)) (M : Me) (t i : Nat) (hI : IsSketch cy ad ns t i) (g : Sg) (a1 : Int32) (a2 : Int32) (a3 : Int32) (r : Int32) (m2 : Sg)  (hf : f7_tellBit a1 a2 a3 g = some (r, m2)) : Ci l yX7_tellBit (.code yX7_tellBit cX7_tellBit 5 (some .int) :: tk_tb) { frames := 2, cells := 0, slots := 0, locals := 45 } D cy ad ns [.ref (ad t i 0), .int a1, .int a2, .int a3] (uI M t i g) r (uI M t i m2) := by
  refine Ci.of (by decide) (Nat.le_of_ble_eq_true rfl) ?_
  intro p e s m below meth c ls hE hW hl
  obtain ⟨hx, hb, hr, hml, hown, hts, hlk, hK⟩ := hE
  have hA : ∀ q : Nat, s.heap.size ≤ q → Aw ad ns s.heap.size q := fun q h => Or.inr h
  have hl : lv_has ls 5 [(0, .ref (ad t i 0)), (1, .int a1), (2, .int a2), (3, .int a3)] := hl
  unfold f7_tellBit at hf
  refine lv_aload_n hx hb dX7_tellBit_0 rfl (lv_at hl 0 rfl) ?_
  refine x_get hx hb hts hown hK hW (hI.2 0 (by decide)) uI_o (hI.1 0 _) rfl inX7 3 (by decide) t_226 rfl dX7_tellBit_1 ?_
  refine lv_iload_n hx hb dX7_tellBit_4 rfl (lv_at hl 1 rfl) ?_
  obtain ⟨hi1, hf⟩ := ck_some hf
  refine x_aald hx hb hK hW (hI.2 4 (by decide)) uI_o (hI.1 4 _) hi1 dX7_tellBit_5 ?_
  refine lv_iload_n hx hb dX7_tellBit_6 rfl (lv_at hl 2 rfl) ?_
  obtain ⟨hi2, hf⟩ := rd_some hf
  refine x_iald hx hb hK hW (hI.2 _ (x_lt (vp_lt hi1) (by decide))) uI_o ((hI.1 _ _).trans (sk14 (ad := ad) (t := t) (i := i) (vp_lt hi1))) hi2 dX7_tellBit_7 ?_
  generalize g ((a1).toNatClampNeg + 14) (a2).toNatClampNeg = v3 at hf ⊢
  refine lv_istore (lv' := [(4, .int v3), (0, .ref (ad t i 0)), (1, .int a1), (2, .int a2), (3, .int a3)]) hx hb dX7_tellBit_8 hl (by decide) rfl (fun ls hl => ?_)
  refine lv_aload_n hx hb dX7_tellBit_10 rfl (lv_at hl 1 rfl) ?_
  refine x_get hx hb hts hown hK hW (hI.2 0 (by decide)) uI_o (hI.1 0 _) rfl inX7 3 (by decide) t_226 rfl dX7_tellBit_11 ?_
  refine lv_iload_n hx hb dX7_tellBit_14 rfl (lv_at hl 2 rfl) ?_
  obtain ⟨hi4, hf⟩ := ck_some hf
  refine x_aald hx hb hK hW (hI.2 4 (by decide)) uI_o (hI.1 4 _) hi4 dX7_tellBit_15 ?_
  refine lv_iload_n hx hb dX7_tellBit_16 rfl (lv_at hl 3 rfl) ?_
  refine lv_iload_n hx hb dX7_tellBit_17 rfl (lv_at hl 4 rfl) ?_
  obtain ⟨hi5, hf⟩ := wr_some hf
  refine x_iast hx hb hK hW (hI.2 _ (x_lt (vp_lt hi4) (by decide))) uI_o (fun _ => ((hI.1 _ _).trans (sk14 (ad := ad) (t := t) (i := i) (vp_lt hi4)))) hi5 uC_leaf dX7_tellBit_18 (fun H locs hW => ?_)
  generalize (va_up g ((a1).toNatClampNeg + 14) (upd (g ((a1).toNatClampNeg + 14)) (a2).toNatClampNeg a3)) = g6 at hf hW
  refine lv_aload_n hx hb dX7_tellBit_19 rfl (lv_at hl 1 rfl) ?_
  refine lv_iload hx hb dX7_tellBit_20 (lv_at hl 0 rfl) ?_
  refine lv_iload_n hx hb dX7_tellBit_22 rfl (lv_at hl 4 rfl) ?_
  obtain ⟨g8, hc7, hf⟩ := bd_some hf
  have hC9 := f7_forgetIfChanged_ok l D cy ad ns M t i hI g6 v3 a3 g8 hc7
  refine x_vv (n := 2) (As := [.int v3, .int a3]) (rest := []) hx hb hml hts hown hK hW hA hC9 (hI.2 0 (by decide)) uI_o (hI.1 0 _) rfl rfl t_333 t_335 p_0 t_13 t_336 rfl (by decide +kernel) rfl rfl ⟨Nat.le_of_ble_eq_true rfl, Nat.le_of_ble_eq_true rfl⟩ hl.1 rfl (lv_room (Nat.le_of_ble_eq_true rfl)) dX7_tellBit_23 ⟨(Nat.le_of_ble_eq_true rfl), (Nat.le_of_ble_eq_true rfl)⟩ (fun H locs hW => ?_)
  refine lv_iload hx hb dX7_tellBit_26 (lv_at hl 0 rfl) ?_
  exact x_iret hx hb hr hlk hK hW (congrArg Prod.fst (Option.some.inj hf)) (congrArg (fun q => (uI M t i (Prod.snd q))) (Option.some.inj hf)) dX7_tellBit_28
def f7_tellDoorInUse (a1 : Int32) (g : Sg) : Option (Int32 × Sg) :=
  (st (va_up g 0 (upd (g 0) 6 a1)) (fun g1 => ((f7_forgetIfChanged (g 0 6) a1 g1).bind (fun g3 => (some ((g 0 6), g3))))))
set_option maxHeartbeats 4000000 in
set_option maxRecDepth 100000 in
theorem f7_tellDoorInUse_ok (l : Launch) (D : va_G) (cy : Nat → ClassId) (ad : Nat → Nat → Nat → Nat) (ns : List (Nat × Nat × Nat)) (M : Me) (t i : Nat) (hI : IsSketch cy ad ns t i) (g : Sg) (a1 : Int32) (r : Int32) (m2 : Sg)  (hf : f7_tellDoorInUse a1 g = some (r, m2)) : Ci l yX7_tellDoorInUse (.code yX7_tellDoorInUse cX7_tellDoorInUse 3 (some .int) :: tk_tb) { frames := 2, cells := 0, slots := 0, locals := 45 } D cy ad ns [.ref (ad t i 0), .int a1] (uI M t i g) r (uI M t i m2) := by
  refine Ci.of (by decide) (Nat.le_of_ble_eq_true rfl) ?_
  intro p e s m below meth c ls hE hW hl
  obtain ⟨hx, hb, hr, hml, hown, hts, hlk, hK⟩ := hE
  have hA : ∀ q : Nat, s.heap.size ≤ q → Aw ad ns s.heap.size q := fun q h => Or.inr h
  have hl : lv_has ls 3 [(0, .ref (ad t i 0)), (1, .int a1)] := hl
  unfold f7_tellDoorInUse at hf
  refine lv_aload_n hx hb dX7_tellDoorInUse_0 rfl (lv_at hl 0 rfl) ?_
  refine x_get hx hb hts hown hK hW (hI.2 0 (by decide)) uI_o (hI.1 0 _) rfl inX7 6 (by decide) t_229 rfl dX7_tellDoorInUse_1 ?_
  refine lv_istore_n (lv' := [(2, .int (g 0 6)), (0, .ref (ad t i 0)), (1, .int a1)]) hx hb dX7_tellDoorInUse_4 rfl hl (by decide) rfl (fun ls hl => ?_)
  refine lv_aload_n hx hb dX7_tellDoorInUse_5 rfl (lv_at hl 1 rfl) ?_
  refine lv_iload_n hx hb dX7_tellDoorInUse_6 rfl (lv_at hl 2 rfl) ?_
  replace hf := st_some hf
  refine x_put hx hb hts hown hK hW (hI.2 0 (by decide)) uI_o (hI.1 0 _) rfl inX7 tyX7 tyX7_ok nmX7 6 (by decide) t_229 rfl rfl (Nat.le_of_ble_eq_true rfl) (hI.1 0 _) uC_leaf dX7_tellDoorInUse_7 (fun H locs hW => ?_)
  generalize (va_up g 0 (upd (g 0) 6 a1)) = g1 at hf hW
  refine lv_aload_n hx hb dX7_tellDoorInUse_10 rfl (lv_at hl 1 rfl) ?_
  refine lv_iload_n hx hb dX7_tellDoorInUse_11 rfl (lv_at hl 0 rfl) ?_
  refine lv_iload_n hx hb dX7_tellDoorInUse_12 rfl (lv_at hl 2 rfl) ?_
  obtain ⟨g3, hc2, hf⟩ := bd_some hf
  have hC4 := f7_forgetIfChanged_ok l D cy ad ns M t i hI g1 (g 0 6) a1 g3 hc2
  refine x_vv (n := 2) (As := [.int (g 0 6), .int a1]) (rest := []) hx hb hml hts hown hK hW hA hC4 (hI.2 0 (by decide)) uI_o (hI.1 0 _) rfl rfl t_333 t_335 p_0 t_13 t_336 rfl (by decide +kernel) rfl rfl ⟨Nat.le_of_ble_eq_true rfl, Nat.le_of_ble_eq_true rfl⟩ hl.1 rfl (lv_room (Nat.le_of_ble_eq_true rfl)) dX7_tellDoorInUse_13 ⟨(Nat.le_of_ble_eq_true rfl), (Nat.le_of_ble_eq_true rfl)⟩ (fun H locs hW => ?_)
  refine lv_iload_n hx hb dX7_tellDoorInUse_16 rfl (lv_at hl 0 rfl) ?_
  exact x_iret hx hb hr hlk hK hW (congrArg Prod.fst (Option.some.inj hf)) (congrArg (fun q => (uI M t i (Prod.snd q))) (Option.some.inj hf)) dX7_tellDoorInUse_17
def f7_tellCareful (a1 : Int32) (g : Sg) : Option (Int32 × Sg) :=
  (st (va_up g 0 (upd (g 0) 7 a1)) (fun g1 => ((f7_forgetIfChanged (g 0 7) a1 g1).bind (fun g3 => (some ((g 0 7), g3))))))
set_option maxHeartbeats 4000000 in
set_option maxRecDepth 100000 in
theorem f7_tellCareful_ok (l : Launch) (D : va_G) (cy : Nat → ClassId) (ad : Nat → Nat → Nat → Nat) (ns : List (Nat × Nat × Nat)) (M : Me) (t i : Nat) (hI : IsSketch cy ad ns t i) (g : Sg) (a1 : Int32) (r : Int32) (m2 : Sg)  (hf : f7_tellCareful a1 g = some (r, m2)) : Ci l yX7_tellCareful (.code yX7_tellCareful cX7_tellCareful 3 (some .int) :: tk_tb) { frames := 2, cells := 0, slots := 0, locals := 45 } D cy ad ns [.ref (ad t i 0), .int a1] (uI M t i g) r (uI M t i m2) := by
  refine Ci.of (by decide) (Nat.le_of_ble_eq_true rfl) ?_
  intro p e s m below meth c ls hE hW hl
  obtain ⟨hx, hb, hr, hml, hown, hts, hlk, hK⟩ := hE
  have hA : ∀ q : Nat, s.heap.size ≤ q → Aw ad ns s.heap.size q := fun q h => Or.inr h
  have hl : lv_has ls 3 [(0, .ref (ad t i 0)), (1, .int a1)] := hl
  unfold f7_tellCareful at hf
  refine lv_aload_n hx hb dX7_tellCareful_0 rfl (lv_at hl 0 rfl) ?_
  refine x_get hx hb hts hown hK hW (hI.2 0 (by decide)) uI_o (hI.1 0 _) rfl inX7 7 (by decide) t_230 rfl dX7_tellCareful_1 ?_
  refine lv_istore_n (lv' := [(2, .int (g 0 7)), (0, .ref (ad t i 0)), (1, .int a1)]) hx hb dX7_tellCareful_4 rfl hl (by decide) rfl (fun ls hl => ?_)
  refine lv_aload_n hx hb dX7_tellCareful_5 rfl (lv_at hl 1 rfl) ?_
  refine lv_iload_n hx hb dX7_tellCareful_6 rfl (lv_at hl 2 rfl) ?_
  replace hf := st_some hf
  refine x_put hx hb hts hown hK hW (hI.2 0 (by decide)) uI_o (hI.1 0 _) rfl inX7 tyX7 tyX7_ok nmX7 7 (by decide) t_230 rfl rfl (Nat.le_of_ble_eq_true rfl) (hI.1 0 _) uC_leaf dX7_tellCareful_7 (fun H locs hW => ?_)
  generalize (va_up g 0 (upd (g 0) 7 a1)) = g1 at hf hW
  refine lv_aload_n hx hb dX7_tellCareful_10 rfl (lv_at hl 1 rfl) ?_
  refine lv_iload_n hx hb dX7_tellCareful_11 rfl (lv_at hl 0 rfl) ?_
  refine lv_iload_n hx hb dX7_tellCareful_12 rfl (lv_at hl 2 rfl) ?_
  obtain ⟨g3, hc2, hf⟩ := bd_some hf
  have hC4 := f7_forgetIfChanged_ok l D cy ad ns M t i hI g1 (g 0 7) a1 g3 hc2
  refine x_vv (n := 2) (As := [.int (g 0 7), .int a1]) (rest := []) hx hb hml hts hown hK hW hA hC4 (hI.2 0 (by decide)) uI_o (hI.1 0 _) rfl rfl t_333 t_335 p_0 t_13 t_336 rfl (by decide +kernel) rfl rfl ⟨Nat.le_of_ble_eq_true rfl, Nat.le_of_ble_eq_true rfl⟩ hl.1 rfl (lv_room (Nat.le_of_ble_eq_true rfl)) dX7_tellCareful_13 ⟨(Nat.le_of_ble_eq_true rfl), (Nat.le_of_ble_eq_true rfl)⟩ (fun H locs hW => ?_)
  refine lv_iload_n hx hb dX7_tellCareful_16 rfl (lv_at hl 0 rfl) ?_
  exact x_iret hx hb hr hlk hK hW (congrArg Prod.fst (Option.some.inj hf)) (congrArg (fun q => (uI M t i (Prod.snd q))) (Option.some.inj hf)) dX7_tellCareful_17
def f7_tellSample (a1 : Int32) (g : Sg) : Option (Int32 × Sg) :=
  (st (va_up g 0 (upd (g 0) 8 a1)) (fun g1 => (some ((g 0 8), g1))))
set_option maxHeartbeats 4000000 in
set_option maxRecDepth 100000 in
theorem f7_tellSample_ok (l : Launch) (D : va_G) (cy : Nat → ClassId) (ad : Nat → Nat → Nat → Nat) (ns : List (Nat × Nat × Nat)) (M : Me) (t i : Nat) (hI : IsSketch cy ad ns t i) (g : Sg) (a1 : Int32) (r : Int32) (m2 : Sg)  (hf : f7_tellSample a1 g = some (r, m2)) : Ci l yX7_tellSample (.code yX7_tellSample cX7_tellSample 3 (some .int) :: tk_tb) { frames := 0, cells := 0, slots := 0, locals := 0 } D cy ad ns [.ref (ad t i 0), .int a1] (uI M t i g) r (uI M t i m2) := by
  refine Ci.of (by decide) (Nat.le_of_ble_eq_true rfl) ?_
  intro p e s m below meth c ls hE hW hl
  obtain ⟨hx, hb, hr, hml, hown, hts, hlk, hK⟩ := hE
  have hA : ∀ q : Nat, s.heap.size ≤ q → Aw ad ns s.heap.size q := fun q h => Or.inr h
  have hl : lv_has ls 3 [(0, .ref (ad t i 0)), (1, .int a1)] := hl
  unfold f7_tellSample at hf
  refine lv_aload_n hx hb dX7_tellSample_0 rfl (lv_at hl 0 rfl) ?_
  refine x_get hx hb hts hown hK hW (hI.2 0 (by decide)) uI_o (hI.1 0 _) rfl inX7 8 (by decide) t_231 rfl dX7_tellSample_1 ?_
  refine lv_istore_n (lv' := [(2, .int (g 0 8)), (0, .ref (ad t i 0)), (1, .int a1)]) hx hb dX7_tellSample_4 rfl hl (by decide) rfl (fun ls hl => ?_)
  refine lv_aload_n hx hb dX7_tellSample_5 rfl (lv_at hl 1 rfl) ?_
  refine lv_iload_n hx hb dX7_tellSample_6 rfl (lv_at hl 2 rfl) ?_
  replace hf := st_some hf
  refine x_put hx hb hts hown hK hW (hI.2 0 (by decide)) uI_o (hI.1 0 _) rfl inX7 tyX7 tyX7_ok nmX7 8 (by decide) t_231 rfl rfl (Nat.le_of_ble_eq_true rfl) (hI.1 0 _) uC_leaf dX7_tellSample_7 (fun H locs hW => ?_)
  generalize (va_up g 0 (upd (g 0) 8 a1)) = g1 at hf hW
  refine lv_iload_n hx hb dX7_tellSample_10 rfl (lv_at hl 0 rfl) ?_
  exact x_iret hx hb hr hlk hK hW (congrArg Prod.fst (Option.some.inj hf)) (congrArg (fun q => (uI M t i (Prod.snd q))) (Option.some.inj hf)) dX7_tellSample_11
def f7_isPastDoor (g : Sg) (a1 : Int32) : Option Int32 :=
  (ck 2 (0 : Int32) (rd 100 (g (((0 : Int32)).toNatClampNeg + 14)) a1 (fun v3 => (rd 128 (g 2) v3 (fun v5 => (if v5 = (1 : Int32) then (ck 2 (1 : Int32) (rd 100 (g (((1 : Int32)).toNatClampNeg + 14)) a1 (fun v9 => (rd 128 (g 2) v9 (fun v11 => (if v11 = (1 : Int32) then (some (1 : Int32)) else (some (0 : Int32)))))))) else (some (0 : Int32))))))))
set_option maxHeartbeats 4000000 in
set_option maxRecDepth 100000 in
theorem f7_isPastDoor_ok (l : Launch) (D : va_G) (cy : Nat → ClassId) (ad : Nat → Nat → Nat → Nat) (ns : List (Nat × Nat × Nat)) (M : Me) (t i : Nat) (hI : IsSketch cy ad ns t i) (g : Sg) (a1 : Int32) (r : Int32)  (hf : f7_isPastDoor g a1 = some r) : Ci l yX7_isPastDoor (.code yX7_isPastDoor cX7_isPastDoor 2 (some .boolean) :: tk_tb) { frames := 0, cells := 0, slots := 0, locals := 0 } D cy ad ns [.ref (ad t i 0), .int a1] (uI M t i g) r (uI M t i g) := by
  refine Ci.of (by decide) (Nat.le_of_ble_eq_true rfl) ?_
  intro p e s m below meth c ls hE hW hl
  obtain ⟨hx, hb, hr, hml, hown, hts, hlk, hK⟩ := hE
  have hA : ∀ q : Nat, s.heap.size ≤ q → Aw ad ns s.heap.size q := fun q h => Or.inr h
  have hl : lv_has ls 2 [(0, .ref (ad t i 0)), (1, .int a1)] := hl
  unfold f7_isPastDoor at hf
  refine lv_aload_n hx hb dX7_isPastDoor_0 rfl (lv_at hl 0 rfl) ?_
  refine x_get hx hb hts hown hK hW (hI.2 0 (by decide)) uI_o (hI.1 0 _) rfl inX7 1 (by decide) t_223 rfl dX7_isPastDoor_1 ?_
  refine lv_aload_n hx hb dX7_isPastDoor_4 rfl (lv_at hl 0 rfl) ?_
  refine x_get hx hb hts hown hK hW (hI.2 0 (by decide)) uI_o (hI.1 0 _) rfl inX7 3 (by decide) t_226 rfl dX7_isPastDoor_5 ?_
  refine lv_iconst (v := 0) hx hb dX7_isPastDoor_8 (by decide) ?_
  obtain ⟨hi1, hf⟩ := ck_some hf
  refine x_aald hx hb hK hW (hI.2 4 (by decide)) uI_o (hI.1 4 _) hi1 dX7_isPastDoor_9 ?_
  refine lv_iload_n hx hb dX7_isPastDoor_10 rfl (lv_at hl 1 rfl) ?_
  obtain ⟨hi2, hf⟩ := rd_some hf
  refine x_iald hx hb hK hW (hI.2 _ (x_lt (vp_lt hi1) (by decide))) uI_o ((hI.1 _ _).trans (sk14 (ad := ad) (t := t) (i := i) (vp_lt hi1))) hi2 dX7_isPastDoor_11 ?_
  generalize g (((0 : Int32)).toNatClampNeg + 14) (a1).toNatClampNeg = v3 at hf ⊢
  obtain ⟨hi4, hf⟩ := rd_some hf
  refine x_iald hx hb hK hW (hI.2 2 (by decide)) uI_o (hI.1 2 _) hi4 dX7_isPastDoor_12 ?_
  generalize g 2 (v3).toNatClampNeg = v5 at hf ⊢
  refine lv_iconst (v := 1) hx hb dX7_isPastDoor_13 (by decide) ?_
  refine lv_icmp_ne (tgt := 38) hx hb dX7_isPastDoor_14 (by decide) (fun c6 => ?_) (fun c6 => ?_)
  · replace hf := (if_neg c6).symm.trans hf
    refine lv_iconst (v := 0) hx hb dX7_isPastDoor_38 (by decide) ?_
    exact x_zret hx hb hr hlk (by first | decide | rfl) hK hW (Option.some.inj hf) rfl dX7_isPastDoor_39
  · replace hf := (if_pos c6).symm.trans hf
    refine lv_aload_n hx hb dX7_isPastDoor_17 rfl (lv_at hl 0 rfl) ?_
    refine x_get hx hb hts hown hK hW (hI.2 0 (by decide)) uI_o (hI.1 0 _) rfl inX7 1 (by decide) t_223 rfl dX7_isPastDoor_18 ?_
    refine lv_aload_n hx hb dX7_isPastDoor_21 rfl (lv_at hl 0 rfl) ?_
    refine x_get hx hb hts hown hK hW (hI.2 0 (by decide)) uI_o (hI.1 0 _) rfl inX7 3 (by decide) t_226 rfl dX7_isPastDoor_22 ?_
    refine lv_iconst (v := 1) hx hb dX7_isPastDoor_25 (by decide) ?_
    obtain ⟨hi7, hf⟩ := ck_some hf
    refine x_aald hx hb hK hW (hI.2 4 (by decide)) uI_o (hI.1 4 _) hi7 dX7_isPastDoor_26 ?_
    refine lv_iload_n hx hb dX7_isPastDoor_27 rfl (lv_at hl 1 rfl) ?_
    obtain ⟨hi8, hf⟩ := rd_some hf
    refine x_iald hx hb hK hW (hI.2 _ (x_lt (vp_lt hi7) (by decide))) uI_o ((hI.1 _ _).trans (sk14 (ad := ad) (t := t) (i := i) (vp_lt hi7))) hi8 dX7_isPastDoor_28 ?_
    generalize g (((1 : Int32)).toNatClampNeg + 14) (a1).toNatClampNeg = v9 at hf ⊢
    obtain ⟨hi10, hf⟩ := rd_some hf
    refine x_iald hx hb hK hW (hI.2 2 (by decide)) uI_o (hI.1 2 _) hi10 dX7_isPastDoor_29 ?_
    generalize g 2 (v9).toNatClampNeg = v11 at hf ⊢
    refine lv_iconst (v := 1) hx hb dX7_isPastDoor_30 (by decide) ?_
    refine lv_icmp_ne (tgt := 38) hx hb dX7_isPastDoor_31 (by decide) (fun c12 => ?_) (fun c12 => ?_)
    · replace hf := (if_neg c12).symm.trans hf
      refine lv_iconst (v := 0) hx hb dX7_isPastDoor_38 (by decide) ?_
      exact x_zret hx hb hr hlk (by first | decide | rfl) hK hW (Option.some.inj hf) rfl dX7_isPastDoor_39
    · replace hf := (if_pos c12).symm.trans hf
      refine lv_iconst (v := 1) hx hb dX7_isPastDoor_34 (by decide) ?_
      refine lv_goto (tgt := 39) hx hb dX7_isPastDoor_35 (by decide) ?_
      exact x_zret hx hb hr hlk (by first | decide | rfl) hK hW (Option.some.inj hf) rfl dX7_isPastDoor_39
def f7_smallestCounter_b5 (g : Sg) (rec5 : Int32 → Int32 → Int32 → Option Int32) (w1 : Int32) (w2 : Int32) (w3 : Int32) : Option Int32 :=
  (if (g 0 5) ≤ w3 then (some w2) else (ck 4 w3 (ck 4 w3 (rd 100 (g ((w3).toNatClampNeg + 10)) w1 (fun v5 => (rd 64 (g ((w3).toNatClampNeg + 6)) v5 (fun v7 => (if w2 ≤ v7 then (rec5 w1 w2 (w3 + (1 : Int32))) else (rec5 w1 v7 (w3 + (1 : Int32)))))))))))
def f7_smallestCounter_l5 (g : Sg) : Nat → Int32 → Int32 → Int32 → Option Int32
  | 0 => fun _ _ _ => none
  | k + 1 => f7_smallestCounter_b5 g (f7_smallestCounter_l5 g k)
def f7_smallestCounter (g : Sg) (a1 : Int32) : Option Int32 :=
  (f7_smallestCounter_l5 g NF a1 (15 : Int32) (0 : Int32))
set_option maxHeartbeats 4000000 in
set_option maxRecDepth 100000 in
theorem f7_smallestCounter_ok (l : Launch) (D : va_G) (cy : Nat → ClassId) (ad : Nat → Nat → Nat → Nat) (ns : List (Nat × Nat × Nat)) (M : Me) (t i : Nat) (hI : IsSketch cy ad ns t i) (g : Sg) (a1 : Int32) (r : Int32)  (hf : f7_smallestCounter g a1 = some r) : Ci l yX7_smallestCounter (.code yX7_smallestCounter cX7_smallestCounter 5 (some .int) :: tk_tb) { frames := 0, cells := 0, slots := 0, locals := 0 } D cy ad ns [.ref (ad t i 0), .int a1] (uI M t i g) r (uI M t i g) := by
  refine Ci.of (by decide) (Nat.le_of_ble_eq_true rfl) ?_
  intro p e s m below meth c ls hE hW hl
  obtain ⟨hx, hb, hr, hml, hown, hts, hlk, hK⟩ := hE
  have hA : ∀ q : Nat, s.heap.size ≤ q → Aw ad ns s.heap.size q := fun q h => Or.inr h
  have hl : lv_has ls 5 [(0, .ref (ad t i 0)), (1, .int a1)] := hl
  unfold f7_smallestCounter at hf
  refine lv_bipush (v := 15) hx hb dX7_smallestCounter_0 (by decide) ?_
  refine lv_istore_n (lv' := [(2, .int (15 : Int32)), (0, .ref (ad t i 0)), (1, .int a1)]) hx hb dX7_smallestCounter_2 rfl hl (by decide) rfl (fun ls hl => ?_)
  refine lv_iconst (v := 0) hx hb dX7_smallestCounter_3 (by decide) ?_
  refine lv_istore_n (lv' := [(3, .int (0 : Int32)), (2, .int (15 : Int32)), (0, .ref (ad t i 0)), (1, .int a1)]) hx hb dX7_smallestCounter_4 rfl hl (by decide) rfl (fun ls hl => ?_)
  have L5 : ∀ (k : Nat) (w1 : Int32) (w2 : Int32) (w3 : Int32) (H : Heap) (locs : List Loc) (ls : Array Slot), f7_smallestCounter_l5 g k w1 w2 w3 = some r → Wl D cy ad ns (Aw ad ns s.heap.size) s.heap (uI M t i g) H locs → lv_has ls 5 [(0, .ref (ad t i 0)), (1, .int w1), (2, .int w2), (3, .int w3)] → W p l e { frames := 0, cells := 0, slots := 0, locals := 0 } s m ([.ref (ad t i 0), .int a1] : List Value).toArray below meth c H locs 0 0 (QI below D cy ad ns [.ref (ad t i 0), .int a1] s r (uI M t i g)) (F0 m 5 ls []) := by
    intro k
    induction k with
    | zero => intro w1 w2 w3 H locs ls hf; exact absurd hf (by simp [f7_smallestCounter_l5])
    | succ k5 ih5 =>
      intro w1 w2 w3 H locs ls hf hW hl
      have hf : f7_smallestCounter_b5 g (f7_smallestCounter_l5 g k5) w1 w2 w3 = some r := hf
      unfold f7_smallestCounter_b5 at hf
      refine lv_iload_n hx hb dX7_smallestCounter_5 rfl (lv_at hl 3 rfl) ?_
      refine lv_aload_n hx hb dX7_smallestCounter_6 rfl (lv_at hl 0 rfl) ?_
      refine x_get hx hb hts hown hK hW (hI.2 0 (by decide)) uI_o (hI.1 0 _) rfl inX7 5 (by decide) t_228 rfl dX7_smallestCounter_7 ?_
      refine lv_icmp_ge (tgt := 45) hx hb dX7_smallestCounter_10 (by decide) (fun c1 => ?_) (fun c1 => ?_)
      · replace hf := (if_pos c1).symm.trans hf
        refine lv_iload_n hx hb dX7_smallestCounter_45 rfl (lv_at hl 2 rfl) ?_
        exact x_iret hx hb hr hlk hK hW (Option.some.inj hf) rfl dX7_smallestCounter_46
      · replace hf := (if_neg c1).symm.trans hf
        refine lv_aload_n hx hb dX7_smallestCounter_13 rfl (lv_at hl 0 rfl) ?_
        refine x_get hx hb hts hown hK hW (hI.2 0 (by decide)) uI_o (hI.1 0 _) rfl inX7 0 (by decide) t_221 rfl dX7_smallestCounter_14 ?_
        refine lv_iload_n hx hb dX7_smallestCounter_17 rfl (lv_at hl 3 rfl) ?_
        obtain ⟨hi2, hf⟩ := ck_some hf
        refine x_aald hx hb hK hW (hI.2 1 (by decide)) uI_o (hI.1 1 _) hi2 dX7_smallestCounter_18 ?_
        refine lv_aload_n hx hb dX7_smallestCounter_19 rfl (lv_at hl 0 rfl) ?_
        refine x_get hx hb hts hown hK hW (hI.2 0 (by decide)) uI_o (hI.1 0 _) rfl inX7 2 (by decide) t_225 rfl dX7_smallestCounter_20 ?_
        refine lv_iload_n hx hb dX7_smallestCounter_23 rfl (lv_at hl 3 rfl) ?_
        obtain ⟨hi3, hf⟩ := ck_some hf
        refine x_aald hx hb hK hW (hI.2 3 (by decide)) uI_o (hI.1 3 _) hi3 dX7_smallestCounter_24 ?_
        refine lv_iload_n hx hb dX7_smallestCounter_25 rfl (lv_at hl 1 rfl) ?_
        obtain ⟨hi4, hf⟩ := rd_some hf
        refine x_iald hx hb hK hW (hI.2 _ (x_lt (vp_lt hi3) (by decide))) uI_o ((hI.1 _ _).trans (sk10 (ad := ad) (t := t) (i := i) (vp_lt hi3))) hi4 dX7_smallestCounter_26 ?_
        generalize g ((w3).toNatClampNeg + 10) (w1).toNatClampNeg = v5 at hf ⊢
        obtain ⟨hi6, hf⟩ := rd_some hf
        refine x_iald hx hb hK hW (hI.2 _ (x_lt (vp_lt hi2) (by decide))) uI_o ((hI.1 _ _).trans (sk6 (ad := ad) (t := t) (i := i) (vp_lt hi2))) hi6 dX7_smallestCounter_27 ?_
        generalize g ((w3).toNatClampNeg + 6) (v5).toNatClampNeg = v7 at hf ⊢
        refine lv_istore (lv' := [(4, .int v7), (0, .ref (ad t i 0)), (1, .int w1), (2, .int w2), (3, .int w3)]) hx hb dX7_smallestCounter_28 hl (by decide) rfl (fun ls hl => ?_)
        refine lv_iload hx hb dX7_smallestCounter_30 (lv_at hl 0 rfl) ?_
        refine lv_iload_n hx hb dX7_smallestCounter_32 rfl (lv_at hl 3 rfl) ?_
        refine lv_icmp_ge (tgt := 39) hx hb dX7_smallestCounter_33 (by decide) (fun c8 => ?_) (fun c8 => ?_)
        · replace hf := (if_pos c8).symm.trans hf
          refine lv_iinc (v := (w3 + (1 : Int32))) (lv' := [(3, .int (w3 + (1 : Int32))), (4, .int v7), (0, .ref (ad t i 0)), (1, .int w1), (2, .int w2)]) hx hb dX7_smallestCounter_39 hl (k := 4) rfl (by first | rfl | decide) (by decide) rfl (fun ls hl => ?_)
          refine lv_goto (tgt := 5) hx hb dX7_smallestCounter_42 (by decide) ?_
          exact ih5 _ _ _ _ _ _ hf hW (lv_sub hl [2, 3, 4, 0] rfl)
        · replace hf := (if_neg c8).symm.trans hf
          refine lv_iload hx hb dX7_smallestCounter_36 (lv_at hl 0 rfl) ?_
          refine lv_istore_n (lv' := [(2, .int v7), (4, .int v7), (0, .ref (ad t i 0)), (1, .int w1), (3, .int w3)]) hx hb dX7_smallestCounter_38 rfl hl (by decide) rfl (fun ls hl => ?_)
          refine lv_iinc (v := (w3 + (1 : Int32))) (lv' := [(3, .int (w3 + (1 : Int32))), (2, .int v7), (4, .int v7), (0, .ref (ad t i 0)), (1, .int w1)]) hx hb dX7_smallestCounter_39 hl (k := 4) rfl (by first | rfl | decide) (by decide) rfl (fun ls hl => ?_)
          refine lv_goto (tgt := 5) hx hb dX7_smallestCounter_42 (by decide) ?_
          exact ih5 _ _ _ _ _ _ hf hW (lv_sub hl [3, 4, 1, 0] rfl)
  exact L5 NF _ _ _ _ _ _ hf hW (lv_sub hl [2, 3, 1, 0] rfl)
def f7_growCounters_b21 (rec21 : Int32 → Int32 → Int32 → Sg → Option Sg) (w1 : Int32) (w2 : Int32) (w3 : Int32) (g : Sg) : Option Sg :=
  (if (g 0 5) ≤ w3 then (some g) else (ck 4 w3 (rd 100 (g ((w3).toNatClampNeg + 10)) w1 (fun v20 => (ck 4 w3 (rd 64 (g ((w3).toNatClampNeg + 6)) v20 (fun v23 => (if w2 < v23 then (rec21 w1 w2 (w3 + (1 : Int32)) g) else (if (15 : Int32) ≤ v23 then (rec21 w1 w2 (w3 + (1 : Int32)) g) else (ck 4 w3 (wr 64 v20 (va_up g ((w3).toNatClampNeg + 6) (upd (g ((w3).toNatClampNeg + 6)) (v20).toNatClampNeg (v23 + (1 : Int32)))) (fun g28 => (rec21 w1 w2 (w3 + (1 : Int32)) g28)))))))))))))
def f7_growCounters_l21 : Nat → Int32 → Int32 → Int32 → Sg → Option Sg
  | 0 => fun _ _ _ _ => none
  | k + 1 => f7_growCounters_b21 (f7_growCounters_l21 k)
def f7_growCounters (a1 : Int32) (g : Sg) : Option Sg :=
  (if (g 0 7) = (1 : Int32) then ((f7_smallestCounter g a1).bind (fun r15 => (f7_growCounters_l21 NF a1 r15 (0 : Int32) g))) else (f7_growCounters_l21 NF a1 (15 : Int32) (0 : Int32) g))
set_option maxHeartbeats 4000000 in
set_option maxRecDepth 100000 in
theorem f7_growCounters_ok (l : Launch) (D : va_G) (cy : Nat → ClassId) (ad : Nat → Nat → Nat → Nat) (ns : List (Nat × Nat × Nat)) (M : Me) (t i : Nat) (hI : IsSketch cy ad ns t i) (g : Sg) (a1 : Int32) (m2 : Sg)  (hf : f7_growCounters a1 g = some m2) : Cv l yX7_growCounters (.code yX7_growCounters cX7_growCounters 6 none :: tk_tb) { frames := 1, cells := 0, slots := 0, locals := 24 } D cy ad ns [.ref (ad t i 0), .int a1] (uI M t i g) (uI M t i m2) := by
  refine Cv.of (by decide) (Nat.le_of_ble_eq_true rfl) ?_
  intro p e s m below meth c ls hE hW hl
  obtain ⟨hx, hb, hr, hml, hown, hts, hlk, hK⟩ := hE
  have hA : ∀ q : Nat, s.heap.size ≤ q → Aw ad ns s.heap.size q := fun q h => Or.inr h
  have hl : lv_has ls 6 [(0, .ref (ad t i 0)), (1, .int a1)] := hl
  unfold f7_growCounters at hf
  refine lv_aload_n hx hb dX7_growCounters_0 rfl (lv_at hl 0 rfl) ?_
  refine x_get hx hb hts hown hK hW (hI.2 0 (by decide)) uI_o (hI.1 0 _) rfl inX7 7 (by decide) t_230 rfl dX7_growCounters_1 ?_
  refine lv_iconst (v := 1) hx hb dX7_growCounters_4 (by decide) ?_
  refine lv_icmp_ne (tgt := 16) hx hb dX7_growCounters_5 (by decide) (fun c1 => ?_) (fun c1 => ?_)
  · replace hf := (if_neg c1).symm.trans hf
    refine lv_bipush (v := 15) hx hb dX7_growCounters_16 (by decide) ?_
    refine lv_istore_n (lv' := [(2, .int (15 : Int32)), (0, .ref (ad t i 0)), (1, .int a1)]) hx hb dX7_growCounters_18 rfl hl (by decide) rfl (fun ls hl => ?_)
    refine lv_iconst (v := 0) hx hb dX7_growCounters_19 (by decide) ?_
    refine lv_istore_n (lv' := [(3, .int (0 : Int32)), (2, .int (15 : Int32)), (0, .ref (ad t i 0)), (1, .int a1)]) hx hb dX7_growCounters_20 rfl hl (by decide) rfl (fun ls hl => ?_)
    have L21 : ∀ (k : Nat) (w1 : Int32) (w2 : Int32) (w3 : Int32) (g : Sg) (H : Heap) (locs : List Loc) (ls : Array Slot), f7_growCounters_l21 k w1 w2 w3 g = some m2 → Wl D cy ad ns (Aw ad ns s.heap.size) s.heap (uI M t i g) H locs → lv_has ls 6 [(0, .ref (ad t i 0)), (1, .int w1), (2, .int w2), (3, .int w3)] → W p l e { frames := 1, cells := 0, slots := 0, locals := 24 } s m ([.ref (ad t i 0), .int a1] : List Value).toArray below meth c H locs 0 0 (QV below D cy ad ns [.ref (ad t i 0), .int a1] s (uI M t i m2)) (F0 m 21 ls []) := by
      intro k
      induction k with
      | zero => intro w1 w2 w3 g H locs ls hf; exact absurd hf (by simp [f7_growCounters_l21])
      | succ k21 ih21 =>
        intro w1 w2 w3 g H locs ls hf hW hl
        have hf : f7_growCounters_b21 (f7_growCounters_l21 k21) w1 w2 w3 g = some m2 := hf
        unfold f7_growCounters_b21 at hf
        refine lv_iload_n hx hb dX7_growCounters_21 rfl (lv_at hl 3 rfl) ?_
        refine lv_aload_n hx hb dX7_growCounters_22 rfl (lv_at hl 0 rfl) ?_
        refine x_get hx hb hts hown hK hW (hI.2 0 (by decide)) uI_o (hI.1 0 _) rfl inX7 5 (by decide) t_228 rfl dX7_growCounters_23 ?_
        refine lv_icmp_ge (tgt := 82) hx hb dX7_growCounters_26 (by decide) (fun c2 => ?_) (fun c2 => ?_)
        · replace hf := (if_pos c2).symm.trans hf
          exact x_vret hx hb hr hlk hK hW (congrArg (fun q => (uI M t i q)) (Option.some.inj hf)) dX7_growCounters_82
        · replace hf := (if_neg c2).symm.trans hf
          refine lv_aload_n hx hb dX7_growCounters_29 rfl (lv_at hl 0 rfl) ?_
          refine x_get hx hb hts hown hK hW (hI.2 0 (by decide)) uI_o (hI.1 0 _) rfl inX7 2 (by decide) t_225 rfl dX7_growCounters_30 ?_
          refine lv_iload_n hx hb dX7_growCounters_33 rfl (lv_at hl 3 rfl) ?_
          obtain ⟨hi3, hf⟩ := ck_some hf
          refine x_aald hx hb hK hW (hI.2 3 (by decide)) uI_o (hI.1 3 _) hi3 dX7_growCounters_34 ?_
          refine lv_iload_n hx hb dX7_growCounters_35 rfl (lv_at hl 1 rfl) ?_
          obtain ⟨hi4, hf⟩ := rd_some hf
          refine x_iald hx hb hK hW (hI.2 _ (x_lt (vp_lt hi3) (by decide))) uI_o ((hI.1 _ _).trans (sk10 (ad := ad) (t := t) (i := i) (vp_lt hi3))) hi4 dX7_growCounters_36 ?_
          generalize g ((w3).toNatClampNeg + 10) (w1).toNatClampNeg = v5 at hf ⊢
          refine lv_istore (lv' := [(4, .int v5), (0, .ref (ad t i 0)), (1, .int w1), (2, .int w2), (3, .int w3)]) hx hb dX7_growCounters_37 hl (by decide) rfl (fun ls hl => ?_)
          refine lv_aload_n hx hb dX7_growCounters_39 rfl (lv_at hl 1 rfl) ?_
          refine x_get hx hb hts hown hK hW (hI.2 0 (by decide)) uI_o (hI.1 0 _) rfl inX7 0 (by decide) t_221 rfl dX7_growCounters_40 ?_
          refine lv_iload_n hx hb dX7_growCounters_43 rfl (lv_at hl 4 rfl) ?_
          obtain ⟨hi6, hf⟩ := ck_some hf
          refine x_aald hx hb hK hW (hI.2 1 (by decide)) uI_o (hI.1 1 _) hi6 dX7_growCounters_44 ?_
          refine lv_iload hx hb dX7_growCounters_45 (lv_at hl 0 rfl) ?_
          obtain ⟨hi7, hf⟩ := rd_some hf
          refine x_iald hx hb hK hW (hI.2 _ (x_lt (vp_lt hi6) (by decide))) uI_o ((hI.1 _ _).trans (sk6 (ad := ad) (t := t) (i := i) (vp_lt hi6))) hi7 dX7_growCounters_47 ?_
          generalize g ((w3).toNatClampNeg + 6) (v5).toNatClampNeg = v8 at hf ⊢
          refine lv_istore (lv' := [(5, .int v8), (4, .int v5), (0, .ref (ad t i 0)), (1, .int w1), (2, .int w2), (3, .int w3)]) hx hb dX7_growCounters_48 hl (by decide) rfl (fun ls hl => ?_)
          refine lv_iload hx hb dX7_growCounters_50 (lv_at hl 0 rfl) ?_
          refine lv_iload_n hx hb dX7_growCounters_52 rfl (lv_at hl 4 rfl) ?_
          refine lv_icmp_gt (tgt := 76) hx hb dX7_growCounters_53 (by decide) (fun c9 => ?_) (fun c9 => ?_)
          · replace hf := (if_pos c9).symm.trans hf
            refine lv_iinc (v := (w3 + (1 : Int32))) (lv' := [(3, .int (w3 + (1 : Int32))), (5, .int v8), (4, .int v5), (0, .ref (ad t i 0)), (1, .int w1), (2, .int w2)]) hx hb dX7_growCounters_76 hl (k := 5) rfl (by first | rfl | decide) (by decide) rfl (fun ls hl => ?_)
            refine lv_goto (tgt := 21) hx hb dX7_growCounters_79 (by decide) ?_
            exact ih21 _ _ _ _ _ _ _ hf hW (lv_sub hl [3, 4, 5, 0] rfl)
          · replace hf := (if_neg c9).symm.trans hf
            refine lv_iload hx hb dX7_growCounters_56 (lv_at hl 0 rfl) ?_
            refine lv_bipush (v := 15) hx hb dX7_growCounters_58 (by decide) ?_
            refine lv_icmp_ge (tgt := 76) hx hb dX7_growCounters_60 (by decide) (fun c10 => ?_) (fun c10 => ?_)
            · replace hf := (if_pos c10).symm.trans hf
              refine lv_iinc (v := (w3 + (1 : Int32))) (lv' := [(3, .int (w3 + (1 : Int32))), (5, .int v8), (4, .int v5), (0, .ref (ad t i 0)), (1, .int w1), (2, .int w2)]) hx hb dX7_growCounters_76 hl (k := 5) rfl (by first | rfl | decide) (by decide) rfl (fun ls hl => ?_)
              refine lv_goto (tgt := 21) hx hb dX7_growCounters_79 (by decide) ?_
              exact ih21 _ _ _ _ _ _ _ hf hW (lv_sub hl [3, 4, 5, 0] rfl)
            · replace hf := (if_neg c10).symm.trans hf
              refine lv_aload_n hx hb dX7_growCounters_63 rfl (lv_at hl 2 rfl) ?_
              refine x_get hx hb hts hown hK hW (hI.2 0 (by decide)) uI_o (hI.1 0 _) rfl inX7 0 (by decide) t_221 rfl dX7_growCounters_64 ?_
              refine lv_iload_n hx hb dX7_growCounters_67 rfl (lv_at hl 5 rfl) ?_
              obtain ⟨hi11, hf⟩ := ck_some hf
              refine x_aald hx hb hK hW (hI.2 1 (by decide)) uI_o (hI.1 1 _) hi11 dX7_growCounters_68 ?_
              refine lv_iload hx hb dX7_growCounters_69 (lv_at hl 1 rfl) ?_
              refine lv_iload hx hb dX7_growCounters_71 (lv_at hl 0 rfl) ?_
              refine lv_iconst (v := 1) hx hb dX7_growCounters_73 (by decide) ?_
              refine lv_iadd hx hb dX7_growCounters_74 ?_
              obtain ⟨hi12, hf⟩ := wr_some hf
              refine x_iast hx hb hK hW (hI.2 _ (x_lt (vp_lt hi11) (by decide))) uI_o (fun _ => ((hI.1 _ _).trans (sk6 (ad := ad) (t := t) (i := i) (vp_lt hi11)))) hi12 uC_leaf dX7_growCounters_75 (fun H locs hW => ?_)
              generalize (va_up g ((w3).toNatClampNeg + 6) (upd (g ((w3).toNatClampNeg + 6)) (v5).toNatClampNeg (v8 + (1 : Int32)))) = g13 at hf hW
              refine lv_iinc (v := (w3 + (1 : Int32))) (lv' := [(3, .int (w3 + (1 : Int32))), (5, .int v8), (4, .int v5), (0, .ref (ad t i 0)), (1, .int w1), (2, .int w2)]) hx hb dX7_growCounters_76 hl (k := 5) rfl (by first | rfl | decide) (by decide) rfl (fun ls hl => ?_)
              refine lv_goto (tgt := 21) hx hb dX7_growCounters_79 (by decide) ?_
              exact ih21 _ _ _ _ _ _ _ hf hW (lv_sub hl [3, 4, 5, 0] rfl)
    exact L21 NF _ _ _ _ _ _ _ hf hW (lv_sub hl [2, 3, 1, 0] rfl)
  · replace hf := (if_pos c1).symm.trans hf
    refine lv_aload_n hx hb dX7_growCounters_8 rfl (lv_at hl 0 rfl) ?_
    refine lv_iload_n hx hb dX7_growCounters_9 rfl (lv_at hl 1 rfl) ?_
    obtain ⟨r15, hc14, hf⟩ := bd_some hf
    have hC16 := f7_smallestCounter_ok l D cy ad ns M t i hI g a1 r15 hc14
    refine x_vi (n := 1) (As := [.int a1]) (rest := []) hx hb hml hts hown hK hW hA hC16 (hI.2 0 (by decide)) uI_o (hI.1 0 _) rfl rfl t_414 t_416 p_4 t_13 t_417 rfl (by decide +kernel) rfl rfl ⟨Nat.le_of_ble_eq_true rfl, Nat.le_of_ble_eq_true rfl⟩ hl.1 rfl (lv_room (Nat.le_of_ble_eq_true rfl)) dX7_growCounters_10 ⟨(Nat.le_of_ble_eq_true rfl), (Nat.le_of_ble_eq_true rfl)⟩ (fun H locs hW => ?_)
    refine lv_goto (tgt := 18) hx hb dX7_growCounters_13 (by decide) ?_
    refine lv_istore_n (lv' := [(2, .int r15), (0, .ref (ad t i 0)), (1, .int a1)]) hx hb dX7_growCounters_18 rfl hl (by decide) rfl (fun ls hl => ?_)
    refine lv_iconst (v := 0) hx hb dX7_growCounters_19 (by decide) ?_
    refine lv_istore_n (lv' := [(3, .int (0 : Int32)), (2, .int r15), (0, .ref (ad t i 0)), (1, .int a1)]) hx hb dX7_growCounters_20 rfl hl (by decide) rfl (fun ls hl => ?_)
    have L21 : ∀ (k : Nat) (w1 : Int32) (w2 : Int32) (w3 : Int32) (g : Sg) (H : Heap) (locs : List Loc) (ls : Array Slot), f7_growCounters_l21 k w1 w2 w3 g = some m2 → Wl D cy ad ns (Aw ad ns s.heap.size) s.heap (uI M t i g) H locs → lv_has ls 6 [(0, .ref (ad t i 0)), (1, .int w1), (2, .int w2), (3, .int w3)] → W p l e { frames := 1, cells := 0, slots := 0, locals := 24 } s m ([.ref (ad t i 0), .int a1] : List Value).toArray below meth c H locs 0 0 (QV below D cy ad ns [.ref (ad t i 0), .int a1] s (uI M t i m2)) (F0 m 21 ls []) := by
      intro k
      induction k with
      | zero => intro w1 w2 w3 g H locs ls hf; exact absurd hf (by simp [f7_growCounters_l21])
      | succ k21 ih21 =>
        intro w1 w2 w3 g H locs ls hf hW hl
        have hf : f7_growCounters_b21 (f7_growCounters_l21 k21) w1 w2 w3 g = some m2 := hf
        unfold f7_growCounters_b21 at hf
        refine lv_iload_n hx hb dX7_growCounters_21 rfl (lv_at hl 3 rfl) ?_
        refine lv_aload_n hx hb dX7_growCounters_22 rfl (lv_at hl 0 rfl) ?_
        refine x_get hx hb hts hown hK hW (hI.2 0 (by decide)) uI_o (hI.1 0 _) rfl inX7 5 (by decide) t_228 rfl dX7_growCounters_23 ?_
        refine lv_icmp_ge (tgt := 82) hx hb dX7_growCounters_26 (by decide) (fun c17 => ?_) (fun c17 => ?_)
        · replace hf := (if_pos c17).symm.trans hf
          exact x_vret hx hb hr hlk hK hW (congrArg (fun q => (uI M t i q)) (Option.some.inj hf)) dX7_growCounters_82
        · replace hf := (if_neg c17).symm.trans hf
          refine lv_aload_n hx hb dX7_growCounters_29 rfl (lv_at hl 0 rfl) ?_
          refine x_get hx hb hts hown hK hW (hI.2 0 (by decide)) uI_o (hI.1 0 _) rfl inX7 2 (by decide) t_225 rfl dX7_growCounters_30 ?_
          refine lv_iload_n hx hb dX7_growCounters_33 rfl (lv_at hl 3 rfl) ?_
          obtain ⟨hi18, hf⟩ := ck_some hf
          refine x_aald hx hb hK hW (hI.2 3 (by decide)) uI_o (hI.1 3 _) hi18 dX7_growCounters_34 ?_
          refine lv_iload_n hx hb dX7_growCounters_35 rfl (lv_at hl 1 rfl) ?_
          obtain ⟨hi19, hf⟩ := rd_some hf
          refine x_iald hx hb hK hW (hI.2 _ (x_lt (vp_lt hi18) (by decide))) uI_o ((hI.1 _ _).trans (sk10 (ad := ad) (t := t) (i := i) (vp_lt hi18))) hi19 dX7_growCounters_36 ?_
          generalize g ((w3).toNatClampNeg + 10) (w1).toNatClampNeg = v20 at hf ⊢
          refine lv_istore (lv' := [(4, .int v20), (0, .ref (ad t i 0)), (1, .int w1), (2, .int w2), (3, .int w3)]) hx hb dX7_growCounters_37 hl (by decide) rfl (fun ls hl => ?_)
          refine lv_aload_n hx hb dX7_growCounters_39 rfl (lv_at hl 1 rfl) ?_
          refine x_get hx hb hts hown hK hW (hI.2 0 (by decide)) uI_o (hI.1 0 _) rfl inX7 0 (by decide) t_221 rfl dX7_growCounters_40 ?_
          refine lv_iload_n hx hb dX7_growCounters_43 rfl (lv_at hl 4 rfl) ?_
          obtain ⟨hi21, hf⟩ := ck_some hf
          refine x_aald hx hb hK hW (hI.2 1 (by decide)) uI_o (hI.1 1 _) hi21 dX7_growCounters_44 ?_
          refine lv_iload hx hb dX7_growCounters_45 (lv_at hl 0 rfl) ?_
          obtain ⟨hi22, hf⟩ := rd_some hf
          refine x_iald hx hb hK hW (hI.2 _ (x_lt (vp_lt hi21) (by decide))) uI_o ((hI.1 _ _).trans (sk6 (ad := ad) (t := t) (i := i) (vp_lt hi21))) hi22 dX7_growCounters_47 ?_
          generalize g ((w3).toNatClampNeg + 6) (v20).toNatClampNeg = v23 at hf ⊢
          refine lv_istore (lv' := [(5, .int v23), (4, .int v20), (0, .ref (ad t i 0)), (1, .int w1), (2, .int w2), (3, .int w3)]) hx hb dX7_growCounters_48 hl (by decide) rfl (fun ls hl => ?_)
          refine lv_iload hx hb dX7_growCounters_50 (lv_at hl 0 rfl) ?_
          refine lv_iload_n hx hb dX7_growCounters_52 rfl (lv_at hl 4 rfl) ?_
          refine lv_icmp_gt (tgt := 76) hx hb dX7_growCounters_53 (by decide) (fun c24 => ?_) (fun c24 => ?_)
          · replace hf := (if_pos c24).symm.trans hf
            refine lv_iinc (v := (w3 + (1 : Int32))) (lv' := [(3, .int (w3 + (1 : Int32))), (5, .int v23), (4, .int v20), (0, .ref (ad t i 0)), (1, .int w1), (2, .int w2)]) hx hb dX7_growCounters_76 hl (k := 5) rfl (by first | rfl | decide) (by decide) rfl (fun ls hl => ?_)
            refine lv_goto (tgt := 21) hx hb dX7_growCounters_79 (by decide) ?_
            exact ih21 _ _ _ _ _ _ _ hf hW (lv_sub hl [3, 4, 5, 0] rfl)
          · replace hf := (if_neg c24).symm.trans hf
            refine lv_iload hx hb dX7_growCounters_56 (lv_at hl 0 rfl) ?_
            refine lv_bipush (v := 15) hx hb dX7_growCounters_58 (by decide) ?_
            refine lv_icmp_ge (tgt := 76) hx hb dX7_growCounters_60 (by decide) (fun c25 => ?_) (fun c25 => ?_)
            · replace hf := (if_pos c25).symm.trans hf
              refine lv_iinc (v := (w3 + (1 : Int32))) (lv' := [(3, .int (w3 + (1 : Int32))), (5, .int v23), (4, .int v20), (0, .ref (ad t i 0)), (1, .int w1), (2, .int w2)]) hx hb dX7_growCounters_76 hl (k := 5) rfl (by first | rfl | decide) (by decide) rfl (fun ls hl => ?_)
              refine lv_goto (tgt := 21) hx hb dX7_growCounters_79 (by decide) ?_
              exact ih21 _ _ _ _ _ _ _ hf hW (lv_sub hl [3, 4, 5, 0] rfl)
            · replace hf := (if_neg c25).symm.trans hf
              refine lv_aload_n hx hb dX7_growCounters_63 rfl (lv_at hl 2 rfl) ?_
              refine x_get hx hb hts hown hK hW (hI.2 0 (by decide)) uI_o (hI.1 0 _) rfl inX7 0 (by decide) t_221 rfl dX7_growCounters_64 ?_
              refine lv_iload_n hx hb dX7_growCounters_67 rfl (lv_at hl 5 rfl) ?_
              obtain ⟨hi26, hf⟩ := ck_some hf
              refine x_aald hx hb hK hW (hI.2 1 (by decide)) uI_o (hI.1 1 _) hi26 dX7_growCounters_68 ?_
              refine lv_iload hx hb dX7_growCounters_69 (lv_at hl 1 rfl) ?_
              refine lv_iload hx hb dX7_growCounters_71 (lv_at hl 0 rfl) ?_
              refine lv_iconst (v := 1) hx hb dX7_growCounters_73 (by decide) ?_
              refine lv_iadd hx hb dX7_growCounters_74 ?_
              obtain ⟨hi27, hf⟩ := wr_some hf
              refine x_iast hx hb hK hW (hI.2 _ (x_lt (vp_lt hi26) (by decide))) uI_o (fun _ => ((hI.1 _ _).trans (sk6 (ad := ad) (t := t) (i := i) (vp_lt hi26)))) hi27 uC_leaf dX7_growCounters_75 (fun H locs hW => ?_)
              generalize (va_up g ((w3).toNatClampNeg + 6) (upd (g ((w3).toNatClampNeg + 6)) (v20).toNatClampNeg (v23 + (1 : Int32)))) = g28 at hf hW
              refine lv_iinc (v := (w3 + (1 : Int32))) (lv' := [(3, .int (w3 + (1 : Int32))), (5, .int v23), (4, .int v20), (0, .ref (ad t i 0)), (1, .int w1), (2, .int w2)]) hx hb dX7_growCounters_76 hl (k := 5) rfl (by first | rfl | decide) (by decide) rfl (fun ls hl => ?_)
              refine lv_goto (tgt := 21) hx hb dX7_growCounters_79 (by decide) ?_
              exact ih21 _ _ _ _ _ _ _ hf hW (lv_sub hl [3, 4, 5, 0] rfl)
    exact L21 NF _ _ _ _ _ _ _ hf hW (lv_sub hl [2, 3, 1, 0] rfl)
def f7_age_b12 (rec2 : Int32 → Sg → Option Sg) (rec12 : Int32 → Int32 → Sg → Option Sg) (w1 : Int32) (w2 : Int32) (g : Sg) : Option Sg :=
  (if (64 : Int32) ≤ w2 then (rec2 (w1 + (1 : Int32)) g) else (ck 4 w1 (rd 64 (g ((w1).toNatClampNeg + 6)) w2 (fun v5 => (wr 64 w2 (va_up g ((w1).toNatClampNeg + 6) (upd (g ((w1).toNatClampNeg + 6)) (w2).toNatClampNeg (v5 / (2 : Int32)))) (fun g7 => (rec12 w1 (w2 + (1 : Int32)) g7)))))))
def f7_age_l12 (rec2 : Int32 → Sg → Option Sg) : Nat → Int32 → Int32 → Sg → Option Sg
  | 0 => fun _ _ _ => none
  | k + 1 => f7_age_b12 rec2 (f7_age_l12 rec2 k)
def f7_age_j42 (g : Sg) : Option Sg :=
  (st (va_up g 2 (fl 128 (0 : Int32) (g 2))) (fun g8 => (st (va_up g8 5 (fl 100 (0 : Int32) (g8 5))) (fun g9 => (st (va_up g9 0 (upd (g9 0) 9 ((g9 0 8) / (2 : Int32)))) (fun g10 => (st (va_up g10 0 (upd (g10 0) 10 ((g10 0 10) + (1 : Int32)))) (fun g11 => (some g11)))))))))
def f7_age_b2 (rec2 : Int32 → Sg → Option Sg) (w1 : Int32) (g : Sg) : Option Sg :=
  (if (g 0 5) ≤ w1 then (f7_age_j42 g) else (f7_age_l12 rec2 NF w1 (0 : Int32) g))
def f7_age_l2 : Nat → Int32 → Sg → Option Sg
  | 0 => fun _ _ => none
  | k + 1 => f7_age_b2 (f7_age_l2 k)
def f7_age (g : Sg) : Option Sg :=
  (f7_age_l2 NF (0 : Int32) g)
set_option maxHeartbeats 4000000 in
set_option maxRecDepth 100000 in
theorem f7_age_ok (l : Launch) (D : va_G) (cy : Nat → ClassId) (ad : Nat → Nat → Nat → Nat) (ns : List (Nat × Nat × Nat)) (M : Me) (t i : Nat) (hI : IsSketch cy ad ns t i) (g : Sg) (m2 : Sg)  (hf : f7_age g = some m2) : Cv l yX7_age (.code yX7_age cX7_age 3 none :: tk_tb) { frames := 1, cells := 0, slots := 0, locals := 23 } D cy ad ns [.ref (ad t i 0)] (uI M t i g) (uI M t i m2) := by
  refine Cv.of (by decide) (Nat.le_of_ble_eq_true rfl) ?_
  intro p e s m below meth c ls hE hW hl
  obtain ⟨hx, hb, hr, hml, hown, hts, hlk, hK⟩ := hE
  have hA : ∀ q : Nat, s.heap.size ≤ q → Aw ad ns s.heap.size q := fun q h => Or.inr h
  have hl : lv_has ls 3 [(0, .ref (ad t i 0))] := hl
  unfold f7_age at hf
  have J42 : ∀ (g : Sg) (H : Heap) (locs : List Loc) (ls : Array Slot), f7_age_j42 g = some m2 → Wl D cy ad ns (Aw ad ns s.heap.size) s.heap (uI M t i g) H locs → lv_has ls 3 [(0, .ref (ad t i 0))] → W p l e { frames := 1, cells := 0, slots := 0, locals := 23 } s m ([.ref (ad t i 0)] : List Value).toArray below meth c H locs 0 0 (QV below D cy ad ns [.ref (ad t i 0)] s (uI M t i m2)) (F0 m 42 ls []) := by
    intro g H locs ls hf hW hl
    unfold f7_age_j42 at hf
    refine lv_aload_n hx hb dX7_age_42 rfl (lv_at hl 0 rfl) ?_
    refine x_get hx hb hts hown hK hW (hI.2 0 (by decide)) uI_o (hI.1 0 _) rfl inX7 1 (by decide) t_223 rfl dX7_age_43 ?_
    refine lv_iconst (v := 0) hx hb dX7_age_46 (by decide) ?_
    replace hf := st_some hf
    refine x_fill hx hb hml hts hown hK hW hA (rest := []) (hI.2 2 (by decide)) uI_o (fun _ => (hI.1 2 _)) (by omega) uC_leaf t_337 (Nat.le_of_ble_eq_true rfl) (Nat.le_of_ble_eq_true rfl) hl.1 (lv_room (Nat.le_of_ble_eq_true rfl)) dX7_age_47 ⟨(Nat.le_of_ble_eq_true rfl), (Nat.le_of_ble_eq_true rfl)⟩ (fun H locs hW => ?_)
    generalize (va_up g 2 (fl 128 (0 : Int32) (g 2))) = g8 at hf hW
    refine lv_aload_n hx hb dX7_age_50 rfl (lv_at hl 0 rfl) ?_
    refine x_get hx hb hts hown hK hW (hI.2 0 (by decide)) uI_o (hI.1 0 _) rfl inX7 4 (by decide) t_227 rfl dX7_age_51 ?_
    refine lv_iconst (v := 0) hx hb dX7_age_54 (by decide) ?_
    replace hf := st_some hf
    refine x_fill hx hb hml hts hown hK hW hA (rest := []) (hI.2 5 (by decide)) uI_o (fun _ => (hI.1 5 _)) (by omega) uC_leaf t_337 (Nat.le_of_ble_eq_true rfl) (Nat.le_of_ble_eq_true rfl) hl.1 (lv_room (Nat.le_of_ble_eq_true rfl)) dX7_age_55 ⟨(Nat.le_of_ble_eq_true rfl), (Nat.le_of_ble_eq_true rfl)⟩ (fun H locs hW => ?_)
    generalize (va_up g8 5 (fl 100 (0 : Int32) (g8 5))) = g9 at hf hW
    refine lv_aload_n hx hb dX7_age_58 rfl (lv_at hl 0 rfl) ?_
    refine lv_aload_n hx hb dX7_age_59 rfl (lv_at hl 0 rfl) ?_
    refine x_get hx hb hts hown hK hW (hI.2 0 (by decide)) uI_o (hI.1 0 _) rfl inX7 8 (by decide) t_231 rfl dX7_age_60 ?_
    refine lv_iconst (v := 2) hx hb dX7_age_63 (by decide) ?_
    refine lv_idiv hx hb dX7_age_64 (by decide) ?_
    replace hf := st_some hf
    refine x_put hx hb hts hown hK hW (hI.2 0 (by decide)) uI_o (hI.1 0 _) rfl inX7 tyX7 tyX7_ok nmX7 9 (by decide) t_232 rfl rfl (Nat.le_of_ble_eq_true rfl) (hI.1 0 _) uC_leaf dX7_age_65 (fun H locs hW => ?_)
    generalize (va_up g9 0 (upd (g9 0) 9 ((g9 0 8) / (2 : Int32)))) = g10 at hf hW
    refine lv_aload_n hx hb dX7_age_68 rfl (lv_at hl 0 rfl) ?_
    refine lv_dup hx hb dX7_age_69 rfl ?_
    refine x_get hx hb hts hown hK hW (hI.2 0 (by decide)) uI_o (hI.1 0 _) rfl inX7 10 (by decide) t_234 rfl dX7_age_70 ?_
    refine lv_iconst (v := 1) hx hb dX7_age_73 (by decide) ?_
    refine lv_iadd hx hb dX7_age_74 ?_
    replace hf := st_some hf
    refine x_put hx hb hts hown hK hW (hI.2 0 (by decide)) uI_o (hI.1 0 _) rfl inX7 tyX7 tyX7_ok nmX7 10 (by decide) t_234 rfl rfl (Nat.le_of_ble_eq_true rfl) (hI.1 0 _) uC_leaf dX7_age_75 (fun H locs hW => ?_)
    generalize (va_up g10 0 (upd (g10 0) 10 ((g10 0 10) + (1 : Int32)))) = g11 at hf hW
    exact x_vret hx hb hr hlk hK hW (congrArg (fun q => (uI M t i q)) (Option.some.inj hf)) dX7_age_78
  refine lv_iconst (v := 0) hx hb dX7_age_0 (by decide) ?_
  refine lv_istore_n (lv' := [(1, .int (0 : Int32)), (0, .ref (ad t i 0))]) hx hb dX7_age_1 rfl hl (by decide) rfl (fun ls hl => ?_)
  have L2 : ∀ (k : Nat) (w1 : Int32) (g : Sg) (H : Heap) (locs : List Loc) (ls : Array Slot), f7_age_l2 k w1 g = some m2 → Wl D cy ad ns (Aw ad ns s.heap.size) s.heap (uI M t i g) H locs → lv_has ls 3 [(0, .ref (ad t i 0)), (1, .int w1)] → W p l e { frames := 1, cells := 0, slots := 0, locals := 23 } s m ([.ref (ad t i 0)] : List Value).toArray below meth c H locs 0 0 (QV below D cy ad ns [.ref (ad t i 0)] s (uI M t i m2)) (F0 m 2 ls []) := by
    intro k
    induction k with
    | zero => intro w1 g H locs ls hf; exact absurd hf (by simp [f7_age_l2])
    | succ k2 ih2 =>
      intro w1 g H locs ls hf hW hl
      have hf : f7_age_b2 (f7_age_l2 k2) w1 g = some m2 := hf
      unfold f7_age_b2 at hf
      refine lv_iload_n hx hb dX7_age_2 rfl (lv_at hl 1 rfl) ?_
      refine lv_aload_n hx hb dX7_age_3 rfl (lv_at hl 0 rfl) ?_
      refine x_get hx hb hts hown hK hW (hI.2 0 (by decide)) uI_o (hI.1 0 _) rfl inX7 5 (by decide) t_228 rfl dX7_age_4 ?_
      refine lv_icmp_ge (tgt := 42) hx hb dX7_age_7 (by decide) (fun c1 => ?_) (fun c1 => ?_)
      · replace hf := (if_pos c1).symm.trans hf
        exact J42 _ _ _ _ hf hW (lv_sub hl [0] rfl)
      · replace hf := (if_neg c1).symm.trans hf
        refine lv_iconst (v := 0) hx hb dX7_age_10 (by decide) ?_
        refine lv_istore_n (lv' := [(2, .int (0 : Int32)), (0, .ref (ad t i 0)), (1, .int w1)]) hx hb dX7_age_11 rfl hl (by decide) rfl (fun ls hl => ?_)
        have L12 : ∀ (k : Nat) (w1 : Int32) (w2 : Int32) (g : Sg) (H : Heap) (locs : List Loc) (ls : Array Slot), f7_age_l12 (f7_age_l2 k2) k w1 w2 g = some m2 → Wl D cy ad ns (Aw ad ns s.heap.size) s.heap (uI M t i g) H locs → lv_has ls 3 [(0, .ref (ad t i 0)), (1, .int w1), (2, .int w2)] → W p l e { frames := 1, cells := 0, slots := 0, locals := 23 } s m ([.ref (ad t i 0)] : List Value).toArray below meth c H locs 0 0 (QV below D cy ad ns [.ref (ad t i 0)] s (uI M t i m2)) (F0 m 12 ls []) := by
          intro k
          induction k with
          | zero => intro w1 w2 g H locs ls hf; exact absurd hf (by simp [f7_age_l12])
          | succ k12 ih12 =>
            intro w1 w2 g H locs ls hf hW hl
            have hf : f7_age_b12 (f7_age_l2 k2) (f7_age_l12 (f7_age_l2 k2) k12) w1 w2 g = some m2 := hf
            unfold f7_age_b12 at hf
            refine lv_iload_n hx hb dX7_age_12 rfl (lv_at hl 2 rfl) ?_
            refine lv_bipush (v := 64) hx hb dX7_age_13 (by decide) ?_
            refine lv_icmp_ge (tgt := 36) hx hb dX7_age_15 (by decide) (fun c2 => ?_) (fun c2 => ?_)
            · replace hf := (if_pos c2).symm.trans hf
              refine lv_iinc (v := (w1 + (1 : Int32))) (lv' := [(1, .int (w1 + (1 : Int32))), (0, .ref (ad t i 0)), (2, .int w2)]) hx hb dX7_age_36 hl (k := 1) rfl (by first | rfl | decide) (by decide) rfl (fun ls hl => ?_)
              refine lv_goto (tgt := 2) hx hb dX7_age_39 (by decide) ?_
              exact ih2 _ _ _ _ _ hf hW (lv_sub hl [1, 0] rfl)
            · replace hf := (if_neg c2).symm.trans hf
              refine lv_aload_n hx hb dX7_age_18 rfl (lv_at hl 0 rfl) ?_
              refine x_get hx hb hts hown hK hW (hI.2 0 (by decide)) uI_o (hI.1 0 _) rfl inX7 0 (by decide) t_221 rfl dX7_age_19 ?_
              refine lv_iload_n hx hb dX7_age_22 rfl (lv_at hl 1 rfl) ?_
              obtain ⟨hi3, hf⟩ := ck_some hf
              refine x_aald hx hb hK hW (hI.2 1 (by decide)) uI_o (hI.1 1 _) hi3 dX7_age_23 ?_
              refine lv_iload_n hx hb dX7_age_24 rfl (lv_at hl 2 rfl) ?_
              refine lv_dup2_11 hx hb dX7_age_25 rfl rfl ?_
              obtain ⟨hi4, hf⟩ := rd_some hf
              refine x_iald hx hb hK hW (hI.2 _ (x_lt (vp_lt hi3) (by decide))) uI_o ((hI.1 _ _).trans (sk6 (ad := ad) (t := t) (i := i) (vp_lt hi3))) hi4 dX7_age_26 ?_
              generalize g ((w1).toNatClampNeg + 6) (w2).toNatClampNeg = v5 at hf ⊢
              refine lv_iconst (v := 2) hx hb dX7_age_27 (by decide) ?_
              refine lv_idiv hx hb dX7_age_28 (by decide) ?_
              obtain ⟨hi6, hf⟩ := wr_some hf
              refine x_iast hx hb hK hW (hI.2 _ (x_lt (vp_lt hi3) (by decide))) uI_o (fun _ => ((hI.1 _ _).trans (sk6 (ad := ad) (t := t) (i := i) (vp_lt hi3)))) hi6 uC_leaf dX7_age_29 (fun H locs hW => ?_)
              generalize (va_up g ((w1).toNatClampNeg + 6) (upd (g ((w1).toNatClampNeg + 6)) (w2).toNatClampNeg (v5 / (2 : Int32)))) = g7 at hf hW
              refine lv_iinc (v := (w2 + (1 : Int32))) (lv' := [(2, .int (w2 + (1 : Int32))), (0, .ref (ad t i 0)), (1, .int w1)]) hx hb dX7_age_30 hl (k := 2) rfl (by first | rfl | decide) (by decide) rfl (fun ls hl => ?_)
              refine lv_goto (tgt := 12) hx hb dX7_age_33 (by decide) ?_
              exact ih12 _ _ _ _ _ _ hf hW (lv_sub hl [1, 2, 0] rfl)
        exact L12 NF _ _ _ _ _ _ hf hW (lv_sub hl [1, 2, 0] rfl)
  exact L2 NF _ _ _ _ _ hf hW (lv_sub hl [1, 0] rfl)
def f7_put_j72 (g : Sg) : Option Sg :=
  (if (g 0 9) < (g 0 8) then (some g) else ((f7_age g).bind (fun g23 => (some g23))))
def f7_put_j67 (w1 : Int32) (g : Sg) : Option Sg :=
  ((f7_growCounters w1 g).bind (fun g26 => (f7_put_j72 g26)))
def f7_put (a1 : Int32) (g : Sg) : Option Sg :=
  (st (va_up g 0 (upd (g 0) 9 ((g 0 9) + (1 : Int32)))) (fun g1 => (rd 100 (g1 5) a1 (fun v3 => (wr 100 a1 (va_up g1 5 (upd (g1 5) (a1).toNatClampNeg (v3 + (1 : Int32)))) (fun g5 => (if (g5 0 6) = (1 : Int32) then ((f7_isPastDoor g5 a1).bind (fun r8 => (if r8 = 0 then (ck 2 (0 : Int32) (rd 100 (g5 (((0 : Int32)).toNatClampNeg + 14)) a1 (fun v13 => (wr 128 v13 (va_up g5 2 (upd (g5 2) (v13).toNatClampNeg (1 : Int32))) (fun g15 => (ck 2 (1 : Int32) (rd 100 (g15 (((1 : Int32)).toNatClampNeg + 14)) a1 (fun v18 => (wr 128 v18 (va_up g15 2 (upd (g15 2) (v18).toNatClampNeg (1 : Int32))) (fun g20 => (f7_put_j72 g20))))))))))) else (f7_put_j67 a1 g5)))) else (f7_put_j67 a1 g5))))))))
set_option maxHeartbeats 4000000 in
set_option maxRecDepth 100000 in
theorem f7_put_ok (l : Launch) (D : va_G) (cy : Nat → ClassId) (ad : Nat → Nat → Nat → Nat) (ns : List (Nat × Nat × Nat)) (M : Me) (t i : Nat) (hI : IsSketch cy ad ns t i) (g : Sg) (a1 : Int32) (m2 : Sg)  (hf : f7_put a1 g = some m2) : Cv l yX7_put (.code yX7_put cX7_put 2 none :: tk_tb) { frames := 2, cells := 0, slots := 0, locals := 49 } D cy ad ns [.ref (ad t i 0), .int a1] (uI M t i g) (uI M t i m2) := by
  refine Cv.of (by decide) (Nat.le_of_ble_eq_true rfl) ?_
  intro p e s m below meth c ls hE hW hl
  obtain ⟨hx, hb, hr, hml, hown, hts, hlk, hK⟩ := hE
  have hA : ∀ q : Nat, s.heap.size ≤ q → Aw ad ns s.heap.size q := fun q h => Or.inr h
  have hl : lv_has ls 2 [(0, .ref (ad t i 0)), (1, .int a1)] := hl
  unfold f7_put at hf
  have J72 : ∀ (g : Sg) (H : Heap) (locs : List Loc) (ls : Array Slot), f7_put_j72 g = some m2 → Wl D cy ad ns (Aw ad ns s.heap.size) s.heap (uI M t i g) H locs → lv_has ls 2 [(0, .ref (ad t i 0))] → W p l e { frames := 2, cells := 0, slots := 0, locals := 49 } s m ([.ref (ad t i 0), .int a1] : List Value).toArray below meth c H locs 0 0 (QV below D cy ad ns [.ref (ad t i 0), .int a1] s (uI M t i m2)) (F0 m 72 ls []) := by
    intro g H locs ls hf hW hl
    unfold f7_put_j72 at hf
    refine lv_aload_n hx hb dX7_put_72 rfl (lv_at hl 0 rfl) ?_
    refine x_get hx hb hts hown hK hW (hI.2 0 (by decide)) uI_o (hI.1 0 _) rfl inX7 9 (by decide) t_232 rfl dX7_put_73 ?_
    refine lv_aload_n hx hb dX7_put_76 rfl (lv_at hl 0 rfl) ?_
    refine x_get hx hb hts hown hK hW (hI.2 0 (by decide)) uI_o (hI.1 0 _) rfl inX7 8 (by decide) t_231 rfl dX7_put_77 ?_
    refine lv_icmp_lt (tgt := 87) hx hb dX7_put_80 (by decide) (fun c21 => ?_) (fun c21 => ?_)
    · replace hf := (if_pos c21).symm.trans hf
      exact x_vret hx hb hr hlk hK hW (congrArg (fun q => (uI M t i q)) (Option.some.inj hf)) dX7_put_87
    · replace hf := (if_neg c21).symm.trans hf
      refine lv_aload_n hx hb dX7_put_83 rfl (lv_at hl 0 rfl) ?_
      obtain ⟨g23, hc22, hf⟩ := bd_some hf
      have hC24 := f7_age_ok l D cy ad ns M t i hI g g23 hc22
      refine x_vv (n := 0) (As := []) (rest := []) hx hb hml hts hown hK hW hA hC24 (hI.2 0 (by decide)) uI_o (hI.1 0 _) rfl rfl t_418 t_420 p_5 t_13 t_421 rfl (by decide +kernel) rfl rfl ⟨Nat.le_of_ble_eq_true rfl, Nat.le_of_ble_eq_true rfl⟩ hl.1 rfl (lv_room (Nat.le_of_ble_eq_true rfl)) dX7_put_84 ⟨(Nat.le_of_ble_eq_true rfl), (Nat.le_of_ble_eq_true rfl)⟩ (fun H locs hW => ?_)
      exact x_vret hx hb hr hlk hK hW (congrArg (fun q => (uI M t i q)) (Option.some.inj hf)) dX7_put_87
  have J67 : ∀ (w1 : Int32) (g : Sg) (H : Heap) (locs : List Loc) (ls : Array Slot), f7_put_j67 w1 g = some m2 → Wl D cy ad ns (Aw ad ns s.heap.size) s.heap (uI M t i g) H locs → lv_has ls 2 [(0, .ref (ad t i 0)), (1, .int w1)] → W p l e { frames := 2, cells := 0, slots := 0, locals := 49 } s m ([.ref (ad t i 0), .int a1] : List Value).toArray below meth c H locs 0 0 (QV below D cy ad ns [.ref (ad t i 0), .int a1] s (uI M t i m2)) (F0 m 67 ls []) := by
    intro w1 g H locs ls hf hW hl
    unfold f7_put_j67 at hf
    refine lv_aload_n hx hb dX7_put_67 rfl (lv_at hl 0 rfl) ?_
    refine lv_iload_n hx hb dX7_put_68 rfl (lv_at hl 1 rfl) ?_
    obtain ⟨g26, hc25, hf⟩ := bd_some hf
    have hC27 := f7_growCounters_ok l D cy ad ns M t i hI g w1 g26 hc25
    refine x_vv (n := 1) (As := [.int w1]) (rest := []) hx hb hml hts hown hK hW hA hC27 (hI.2 0 (by decide)) uI_o (hI.1 0 _) rfl rfl t_410 t_412 p_3 t_13 t_413 rfl (by decide +kernel) rfl rfl ⟨Nat.le_of_ble_eq_true rfl, Nat.le_of_ble_eq_true rfl⟩ hl.1 rfl (lv_room (Nat.le_of_ble_eq_true rfl)) dX7_put_69 ⟨(Nat.le_of_ble_eq_true rfl), (Nat.le_of_ble_eq_true rfl)⟩ (fun H locs hW => ?_)
    exact J72 _ _ _ _ hf hW (lv_sub hl [0] rfl)
  refine lv_aload_n hx hb dX7_put_0 rfl (lv_at hl 0 rfl) ?_
  refine lv_dup hx hb dX7_put_1 rfl ?_
  refine x_get hx hb hts hown hK hW (hI.2 0 (by decide)) uI_o (hI.1 0 _) rfl inX7 9 (by decide) t_232 rfl dX7_put_2 ?_
  refine lv_iconst (v := 1) hx hb dX7_put_5 (by decide) ?_
  refine lv_iadd hx hb dX7_put_6 ?_
  replace hf := st_some hf
  refine x_put hx hb hts hown hK hW (hI.2 0 (by decide)) uI_o (hI.1 0 _) rfl inX7 tyX7 tyX7_ok nmX7 9 (by decide) t_232 rfl rfl (Nat.le_of_ble_eq_true rfl) (hI.1 0 _) uC_leaf dX7_put_7 (fun H locs hW => ?_)
  generalize (va_up g 0 (upd (g 0) 9 ((g 0 9) + (1 : Int32)))) = g1 at hf hW
  refine lv_aload_n hx hb dX7_put_10 rfl (lv_at hl 0 rfl) ?_
  refine x_get hx hb hts hown hK hW (hI.2 0 (by decide)) uI_o (hI.1 0 _) rfl inX7 4 (by decide) t_227 rfl dX7_put_11 ?_
  refine lv_iload_n hx hb dX7_put_14 rfl (lv_at hl 1 rfl) ?_
  refine lv_dup2_11 hx hb dX7_put_15 rfl rfl ?_
  obtain ⟨hi2, hf⟩ := rd_some hf
  refine x_iald hx hb hK hW (hI.2 5 (by decide)) uI_o (hI.1 5 _) hi2 dX7_put_16 ?_
  generalize g1 5 (a1).toNatClampNeg = v3 at hf ⊢
  refine lv_iconst (v := 1) hx hb dX7_put_17 (by decide) ?_
  refine lv_iadd hx hb dX7_put_18 ?_
  obtain ⟨hi4, hf⟩ := wr_some hf
  refine x_iast hx hb hK hW (hI.2 5 (by decide)) uI_o (fun _ => (hI.1 5 _)) hi4 uC_leaf dX7_put_19 (fun H locs hW => ?_)
  generalize (va_up g1 5 (upd (g1 5) (a1).toNatClampNeg (v3 + (1 : Int32)))) = g5 at hf hW
  refine lv_aload_n hx hb dX7_put_20 rfl (lv_at hl 0 rfl) ?_
  refine x_get hx hb hts hown hK hW (hI.2 0 (by decide)) uI_o (hI.1 0 _) rfl inX7 6 (by decide) t_229 rfl dX7_put_21 ?_
  refine lv_iconst (v := 1) hx hb dX7_put_24 (by decide) ?_
  refine lv_icmp_ne (tgt := 67) hx hb dX7_put_25 (by decide) (fun c6 => ?_) (fun c6 => ?_)
  · replace hf := (if_neg c6).symm.trans hf
    exact J67 _ _ _ _ _ hf hW (lv_sub hl [0, 1] rfl)
  · replace hf := (if_pos c6).symm.trans hf
    refine lv_aload_n hx hb dX7_put_28 rfl (lv_at hl 0 rfl) ?_
    refine lv_iload_n hx hb dX7_put_29 rfl (lv_at hl 1 rfl) ?_
    obtain ⟨r8, hc7, hf⟩ := bd_some hf
    have hC9 := f7_isPastDoor_ok l D cy ad ns M t i hI g5 a1 r8 hc7
    refine x_vi (n := 1) (As := [.int a1]) (rest := []) hx hb hml hts hown hK hW hA hC9 (hI.2 0 (by decide)) uI_o (hI.1 0 _) rfl rfl t_406 t_408 p_2 t_13 t_409 rfl (by decide +kernel) rfl rfl ⟨Nat.le_of_ble_eq_true rfl, Nat.le_of_ble_eq_true rfl⟩ hl.1 rfl (lv_room (Nat.le_of_ble_eq_true rfl)) dX7_put_30 ⟨(Nat.le_of_ble_eq_true rfl), (Nat.le_of_ble_eq_true rfl)⟩ (fun H locs hW => ?_)
    refine lv_if_ne (tgt := 67) hx hb dX7_put_33 (by decide) (fun c10 => ?_) (fun c10 => ?_)
    · replace hf := (if_neg c10).symm.trans hf
      exact J67 _ _ _ _ _ hf hW (lv_sub hl [0, 1] rfl)
    · replace hf := (if_pos c10).symm.trans hf
      refine lv_aload_n hx hb dX7_put_36 rfl (lv_at hl 0 rfl) ?_
      refine x_get hx hb hts hown hK hW (hI.2 0 (by decide)) uI_o (hI.1 0 _) rfl inX7 1 (by decide) t_223 rfl dX7_put_37 ?_
      refine lv_aload_n hx hb dX7_put_40 rfl (lv_at hl 0 rfl) ?_
      refine x_get hx hb hts hown hK hW (hI.2 0 (by decide)) uI_o (hI.1 0 _) rfl inX7 3 (by decide) t_226 rfl dX7_put_41 ?_
      refine lv_iconst (v := 0) hx hb dX7_put_44 (by decide) ?_
      obtain ⟨hi11, hf⟩ := ck_some hf
      refine x_aald hx hb hK hW (hI.2 4 (by decide)) uI_o (hI.1 4 _) hi11 dX7_put_45 ?_
      refine lv_iload_n hx hb dX7_put_46 rfl (lv_at hl 1 rfl) ?_
      obtain ⟨hi12, hf⟩ := rd_some hf
      refine x_iald hx hb hK hW (hI.2 _ (x_lt (vp_lt hi11) (by decide))) uI_o ((hI.1 _ _).trans (sk14 (ad := ad) (t := t) (i := i) (vp_lt hi11))) hi12 dX7_put_47 ?_
      generalize g5 (((0 : Int32)).toNatClampNeg + 14) (a1).toNatClampNeg = v13 at hf ⊢
      refine lv_iconst (v := 1) hx hb dX7_put_48 (by decide) ?_
      obtain ⟨hi14, hf⟩ := wr_some hf
      refine x_iast hx hb hK hW (hI.2 2 (by decide)) uI_o (fun _ => (hI.1 2 _)) hi14 uC_leaf dX7_put_49 (fun H locs hW => ?_)
      generalize (va_up g5 2 (upd (g5 2) (v13).toNatClampNeg (1 : Int32))) = g15 at hf hW
      refine lv_aload_n hx hb dX7_put_50 rfl (lv_at hl 0 rfl) ?_
      refine x_get hx hb hts hown hK hW (hI.2 0 (by decide)) uI_o (hI.1 0 _) rfl inX7 1 (by decide) t_223 rfl dX7_put_51 ?_
      refine lv_aload_n hx hb dX7_put_54 rfl (lv_at hl 0 rfl) ?_
      refine x_get hx hb hts hown hK hW (hI.2 0 (by decide)) uI_o (hI.1 0 _) rfl inX7 3 (by decide) t_226 rfl dX7_put_55 ?_
      refine lv_iconst (v := 1) hx hb dX7_put_58 (by decide) ?_
      obtain ⟨hi16, hf⟩ := ck_some hf
      refine x_aald hx hb hK hW (hI.2 4 (by decide)) uI_o (hI.1 4 _) hi16 dX7_put_59 ?_
      refine lv_iload_n hx hb dX7_put_60 rfl (lv_at hl 1 rfl) ?_
      obtain ⟨hi17, hf⟩ := rd_some hf
      refine x_iald hx hb hK hW (hI.2 _ (x_lt (vp_lt hi16) (by decide))) uI_o ((hI.1 _ _).trans (sk14 (ad := ad) (t := t) (i := i) (vp_lt hi16))) hi17 dX7_put_61 ?_
      generalize g15 (((1 : Int32)).toNatClampNeg + 14) (a1).toNatClampNeg = v18 at hf ⊢
      refine lv_iconst (v := 1) hx hb dX7_put_62 (by decide) ?_
      obtain ⟨hi19, hf⟩ := wr_some hf
      refine x_iast hx hb hK hW (hI.2 2 (by decide)) uI_o (fun _ => (hI.1 2 _)) hi19 uC_leaf dX7_put_63 (fun H locs hW => ?_)
      generalize (va_up g15 2 (upd (g15 2) (v18).toNatClampNeg (1 : Int32))) = g20 at hf hW
      refine lv_goto (tgt := 72) hx hb dX7_put_64 (by decide) ?_
      exact J72 _ _ _ _ hf hW (lv_sub hl [0] rfl)
def f7_guess (g : Sg) (a1 : Int32) : Option Int32 :=
  ((f7_smallestCounter g a1).bind (fun r2 => (if (g 0 6) = (1 : Int32) then ((f7_isPastDoor g a1).bind (fun r6 => (if r6 = 0 then (some r2) else (some (r2 + (1 : Int32)))))) else (some r2))))
set_option maxHeartbeats 4000000 in
set_option maxRecDepth 100000 in
theorem f7_guess_ok (l : Launch) (D : va_G) (cy : Nat → ClassId) (ad : Nat → Nat → Nat → Nat) (ns : List (Nat × Nat × Nat)) (M : Me) (t i : Nat) (hI : IsSketch cy ad ns t i) (g : Sg) (a1 : Int32) (r : Int32)  (hf : f7_guess g a1 = some r) : Ci l yX7_guess (.code yX7_guess cX7_guess 3 (some .int) :: tk_tb) { frames := 1, cells := 0, slots := 0, locals := 24 } D cy ad ns [.ref (ad t i 0), .int a1] (uI M t i g) r (uI M t i g) := by
  refine Ci.of (by decide) (Nat.le_of_ble_eq_true rfl) ?_
  intro p e s m below meth c ls hE hW hl
  obtain ⟨hx, hb, hr, hml, hown, hts, hlk, hK⟩ := hE
  have hA : ∀ q : Nat, s.heap.size ≤ q → Aw ad ns s.heap.size q := fun q h => Or.inr h
  have hl : lv_has ls 3 [(0, .ref (ad t i 0)), (1, .int a1)] := hl
  unfold f7_guess at hf
  refine lv_aload_n hx hb dX7_guess_0 rfl (lv_at hl 0 rfl) ?_
  refine lv_iload_n hx hb dX7_guess_1 rfl (lv_at hl 1 rfl) ?_
  obtain ⟨r2, hc1, hf⟩ := bd_some hf
  have hC3 := f7_smallestCounter_ok l D cy ad ns M t i hI g a1 r2 hc1
  refine x_vi (n := 1) (As := [.int a1]) (rest := []) hx hb hml hts hown hK hW hA hC3 (hI.2 0 (by decide)) uI_o (hI.1 0 _) rfl rfl t_414 t_416 p_4 t_13 t_417 rfl (by decide +kernel) rfl rfl ⟨Nat.le_of_ble_eq_true rfl, Nat.le_of_ble_eq_true rfl⟩ hl.1 rfl (lv_room (Nat.le_of_ble_eq_true rfl)) dX7_guess_2 ⟨(Nat.le_of_ble_eq_true rfl), (Nat.le_of_ble_eq_true rfl)⟩ (fun H locs hW => ?_)
  refine lv_istore_n (lv' := [(2, .int r2), (0, .ref (ad t i 0)), (1, .int a1)]) hx hb dX7_guess_5 rfl hl (by decide) rfl (fun ls hl => ?_)
  refine lv_aload_n hx hb dX7_guess_6 rfl (lv_at hl 1 rfl) ?_
  refine x_get hx hb hts hown hK hW (hI.2 0 (by decide)) uI_o (hI.1 0 _) rfl inX7 6 (by decide) t_229 rfl dX7_guess_7 ?_
  refine lv_iconst (v := 1) hx hb dX7_guess_10 (by decide) ?_
  refine lv_icmp_ne (tgt := 28) hx hb dX7_guess_11 (by decide) (fun c4 => ?_) (fun c4 => ?_)
  · replace hf := (if_neg c4).symm.trans hf
    refine lv_iload_n hx hb dX7_guess_28 rfl (lv_at hl 0 rfl) ?_
    exact x_iret hx hb hr hlk hK hW (Option.some.inj hf) rfl dX7_guess_29
  · replace hf := (if_pos c4).symm.trans hf
    refine lv_aload_n hx hb dX7_guess_14 rfl (lv_at hl 1 rfl) ?_
    refine lv_iload_n hx hb dX7_guess_15 rfl (lv_at hl 2 rfl) ?_
    obtain ⟨r6, hc5, hf⟩ := bd_some hf
    have hC7 := f7_isPastDoor_ok l D cy ad ns M t i hI g a1 r6 hc5
    refine x_vi (n := 1) (As := [.int a1]) (rest := []) hx hb hml hts hown hK hW hA hC7 (hI.2 0 (by decide)) uI_o (hI.1 0 _) rfl rfl t_406 t_408 p_2 t_13 t_409 rfl (by decide +kernel) rfl rfl ⟨Nat.le_of_ble_eq_true rfl, Nat.le_of_ble_eq_true rfl⟩ hl.1 rfl (lv_room (Nat.le_of_ble_eq_true rfl)) dX7_guess_16 ⟨(Nat.le_of_ble_eq_true rfl), (Nat.le_of_ble_eq_true rfl)⟩ (fun H locs hW => ?_)
    refine lv_if_eq (tgt := 28) hx hb dX7_guess_19 (by decide) (fun c8 => ?_) (fun c8 => ?_)
    · replace hf := (if_pos c8).symm.trans hf
      refine lv_iload_n hx hb dX7_guess_28 rfl (lv_at hl 0 rfl) ?_
      exact x_iret hx hb hr hlk hK hW (Option.some.inj hf) rfl dX7_guess_29
    · replace hf := (if_neg c8).symm.trans hf
      refine lv_iload_n hx hb dX7_guess_22 rfl (lv_at hl 0 rfl) ?_
      refine lv_iconst (v := 1) hx hb dX7_guess_23 (by decide) ?_
      refine lv_iadd hx hb dX7_guess_24 ?_
      refine lv_goto (tgt := 29) hx hb dX7_guess_25 (by decide) ?_
      exact x_iret hx hb hr hlk hK hW (Option.some.inj hf) rfl dX7_guess_29
def f7_isSound_b12 (g : Sg) (rec2 : Int32 → Option Int32) (rec12 : Int32 → Int32 → Option Int32) (w1 : Int32) (w2 : Int32) : Option Int32 :=
  (if (64 : Int32) ≤ w2 then (rec2 (w1 + (1 : Int32))) else (ck 4 w1 (rd 64 (g ((w1).toNatClampNeg + 6)) w2 (fun v5 => (if v5 < 0 then (some (0 : Int32)) else (ck 4 w1 (rd 64 (g ((w1).toNatClampNeg + 6)) w2 (fun v9 => (if v9 ≤ (15 : Int32) then (rec12 w1 (w2 + (1 : Int32))) else (some (0 : Int32)))))))))))
def f7_isSound_l12 (g : Sg) (rec2 : Int32 → Option Int32) : Nat → Int32 → Int32 → Option Int32
  | 0 => fun _ _ => none
  | k + 1 => f7_isSound_b12 g rec2 (f7_isSound_l12 g rec2 k)
def f7_isSound_b58 (g : Sg) (rec58 : Int32 → Option Int32) (w1 : Int32) : Option Int32 :=
  (if (100 : Int32) ≤ w1 then (some (1 : Int32)) else ((f7_guess g w1).bind (fun r13 => (rd 100 (g 5) w1 (fun v16 => (if (if v16 < (15 : Int32) then v16 else (15 : Int32)) ≤ r13 then (rec58 (w1 + (1 : Int32))) else (some (0 : Int32))))))))
def f7_isSound_l58 (g : Sg) : Nat → Int32 → Option Int32
  | 0 => fun _ => none
  | k + 1 => f7_isSound_b58 g (f7_isSound_l58 g k)
def f7_isSound_j56 (g : Sg) : Option Int32 :=
  (f7_isSound_l58 g NF (0 : Int32))
def f7_isSound_b2 (g : Sg) (rec2 : Int32 → Option Int32) (w1 : Int32) : Option Int32 :=
  (if (g 0 5) ≤ w1 then (f7_isSound_j56 g) else (f7_isSound_l12 g rec2 NF w1 (0 : Int32)))
def f7_isSound_l2 (g : Sg) : Nat → Int32 → Option Int32
  | 0 => fun _ => none
  | k + 1 => f7_isSound_b2 g (f7_isSound_l2 g k)
def f7_isSound (g : Sg) : Option Int32 :=
  (f7_isSound_l2 g NF (0 : Int32))
set_option maxHeartbeats 4000000 in
set_option maxRecDepth 100000 in
theorem f7_isSound_ok (l : Launch) (D : va_G) (cy : Nat → ClassId) (ad : Nat → Nat → Nat → Nat) (ns : List (Nat × Nat × Nat)) (M : Me) (t i : Nat) (hI : IsSketch cy ad ns t i) (g : Sg) (r : Int32)  (hf : f7_isSound g = some r) : Ci l yX7_isSound (.code yX7_isSound cX7_isSound 3 (some .boolean) :: tk_tb) { frames := 2, cells := 0, slots := 0, locals := 46 } D cy ad ns [.ref (ad t i 0)] (uI M t i g) r (uI M t i g) := by
  refine Ci.of (by decide) (Nat.le_of_ble_eq_true rfl) ?_
  intro p e s m below meth c ls hE hW hl
  obtain ⟨hx, hb, hr, hml, hown, hts, hlk, hK⟩ := hE
  have hA : ∀ q : Nat, s.heap.size ≤ q → Aw ad ns s.heap.size q := fun q h => Or.inr h
  have hl : lv_has ls 3 [(0, .ref (ad t i 0))] := hl
  unfold f7_isSound at hf
  have J56 : ∀ (H : Heap) (locs : List Loc) (ls : Array Slot), f7_isSound_j56 g = some r → Wl D cy ad ns (Aw ad ns s.heap.size) s.heap (uI M t i g) H locs → lv_has ls 3 [(0, .ref (ad t i 0))] → W p l e { frames := 2, cells := 0, slots := 0, locals := 46 } s m ([.ref (ad t i 0)] : List Value).toArray below meth c H locs 0 0 (QI below D cy ad ns [.ref (ad t i 0)] s r (uI M t i g)) (F0 m 56 ls []) := by
    intro H locs ls hf hW hl
    unfold f7_isSound_j56 at hf
    refine lv_iconst (v := 0) hx hb dX7_isSound_56 (by decide) ?_
    refine lv_istore_n (lv' := [(1, .int (0 : Int32)), (0, .ref (ad t i 0))]) hx hb dX7_isSound_57 rfl hl (by decide) rfl (fun ls hl => ?_)
    have L58 : ∀ (k : Nat) (w1 : Int32) (H : Heap) (locs : List Loc) (ls : Array Slot), f7_isSound_l58 g k w1 = some r → Wl D cy ad ns (Aw ad ns s.heap.size) s.heap (uI M t i g) H locs → lv_has ls 3 [(0, .ref (ad t i 0)), (1, .int w1)] → W p l e { frames := 2, cells := 0, slots := 0, locals := 46 } s m ([.ref (ad t i 0)] : List Value).toArray below meth c H locs 0 0 (QI below D cy ad ns [.ref (ad t i 0)] s r (uI M t i g)) (F0 m 58 ls []) := by
      intro k
      induction k with
      | zero => intro w1 H locs ls hf; exact absurd hf (by simp [f7_isSound_l58])
      | succ k58 ih58 =>
        intro w1 H locs ls hf hW hl
        have hf : f7_isSound_b58 g (f7_isSound_l58 g k58) w1 = some r := hf
        unfold f7_isSound_b58 at hf
        refine lv_iload_n hx hb dX7_isSound_58 rfl (lv_at hl 1 rfl) ?_
        refine lv_bipush (v := 100) hx hb dX7_isSound_59 (by decide) ?_
        refine lv_icmp_ge (tgt := 91) hx hb dX7_isSound_61 (by decide) (fun c11 => ?_) (fun c11 => ?_)
        · replace hf := (if_pos c11).symm.trans hf
          refine lv_iconst (v := 1) hx hb dX7_isSound_91 (by decide) ?_
          exact x_zret hx hb hr hlk (by first | decide | rfl) hK hW (Option.some.inj hf) rfl dX7_isSound_92
        · replace hf := (if_neg c11).symm.trans hf
          refine lv_aload_n hx hb dX7_isSound_64 rfl (lv_at hl 0 rfl) ?_
          refine lv_iload_n hx hb dX7_isSound_65 rfl (lv_at hl 1 rfl) ?_
          obtain ⟨r13, hc12, hf⟩ := bd_some hf
          have hC14 := f7_guess_ok l D cy ad ns M t i hI g w1 r13 hc12
          refine x_vi (n := 1) (As := [.int w1]) (rest := []) hx hb hml hts hown hK hW hA hC14 (hI.2 0 (by decide)) uI_o (hI.1 0 _) rfl rfl t_723 t_479 t_480 t_13 t_481 rfl (by decide +kernel) rfl rfl ⟨Nat.le_of_ble_eq_true rfl, Nat.le_of_ble_eq_true rfl⟩ hl.1 rfl (lv_room (Nat.le_of_ble_eq_true rfl)) dX7_isSound_66 ⟨(Nat.le_of_ble_eq_true rfl), (Nat.le_of_ble_eq_true rfl)⟩ (fun H locs hW => ?_)
          refine lv_bipush (v := 15) hx hb dX7_isSound_69 (by decide) ?_
          refine lv_aload_n hx hb dX7_isSound_71 rfl (lv_at hl 0 rfl) ?_
          refine x_get hx hb hts hown hK hW (hI.2 0 (by decide)) uI_o (hI.1 0 _) rfl inX7 4 (by decide) t_227 rfl dX7_isSound_72 ?_
          refine lv_iload_n hx hb dX7_isSound_75 rfl (lv_at hl 1 rfl) ?_
          obtain ⟨hi15, hf⟩ := rd_some hf
          refine x_iald hx hb hK hW (hI.2 5 (by decide)) uI_o (hI.1 5 _) hi15 dX7_isSound_76 ?_
          generalize g 5 (w1).toNatClampNeg = v16 at hf ⊢
          refine va_mmin hx hb (hml.trans hl.1.symm) hown (hts _ t_219) (hts _ t_149) (hts _ t_7) (hts _ t_150) (Nat.le_of_ble_eq_true rfl) (Nat.le_of_ble_eq_true rfl) (Nat.zero_le _) (Nat.zero_le _) dX7_isSound_77 ?_
          refine lv_icmp_ge (tgt := 85) hx hb dX7_isSound_80 (by decide) (fun c17 => ?_) (fun c17 => ?_)
          · replace hf := (if_pos c17).symm.trans hf
            refine lv_iinc (v := (w1 + (1 : Int32))) (lv' := [(1, .int (w1 + (1 : Int32))), (0, .ref (ad t i 0))]) hx hb dX7_isSound_85 hl (k := 1) rfl (by first | rfl | decide) (by decide) rfl (fun ls hl => ?_)
            refine lv_goto (tgt := 58) hx hb dX7_isSound_88 (by decide) ?_
            exact ih58 _ _ _ _ hf hW (lv_sub hl [1, 0] rfl)
          · replace hf := (if_neg c17).symm.trans hf
            refine lv_iconst (v := 0) hx hb dX7_isSound_83 (by decide) ?_
            exact x_zret hx hb hr hlk (by first | decide | rfl) hK hW (Option.some.inj hf) rfl dX7_isSound_84
    exact L58 NF _ _ _ _ hf hW (lv_sub hl [1, 0] rfl)
  refine lv_iconst (v := 0) hx hb dX7_isSound_0 (by decide) ?_
  refine lv_istore_n (lv' := [(1, .int (0 : Int32)), (0, .ref (ad t i 0))]) hx hb dX7_isSound_1 rfl hl (by decide) rfl (fun ls hl => ?_)
  have L2 : ∀ (k : Nat) (w1 : Int32) (H : Heap) (locs : List Loc) (ls : Array Slot), f7_isSound_l2 g k w1 = some r → Wl D cy ad ns (Aw ad ns s.heap.size) s.heap (uI M t i g) H locs → lv_has ls 3 [(0, .ref (ad t i 0)), (1, .int w1)] → W p l e { frames := 2, cells := 0, slots := 0, locals := 46 } s m ([.ref (ad t i 0)] : List Value).toArray below meth c H locs 0 0 (QI below D cy ad ns [.ref (ad t i 0)] s r (uI M t i g)) (F0 m 2 ls []) := by
    intro k
    induction k with
    | zero => intro w1 H locs ls hf; exact absurd hf (by simp [f7_isSound_l2])
    | succ k2 ih2 =>
      intro w1 H locs ls hf hW hl
      have hf : f7_isSound_b2 g (f7_isSound_l2 g k2) w1 = some r := hf
      unfold f7_isSound_b2 at hf
      refine lv_iload_n hx hb dX7_isSound_2 rfl (lv_at hl 1 rfl) ?_
      refine lv_aload_n hx hb dX7_isSound_3 rfl (lv_at hl 0 rfl) ?_
      refine x_get hx hb hts hown hK hW (hI.2 0 (by decide)) uI_o (hI.1 0 _) rfl inX7 5 (by decide) t_228 rfl dX7_isSound_4 ?_
      refine lv_icmp_ge (tgt := 56) hx hb dX7_isSound_7 (by decide) (fun c1 => ?_) (fun c1 => ?_)
      · replace hf := (if_pos c1).symm.trans hf
        exact J56 _ _ _ hf hW (lv_sub hl [0] rfl)
      · replace hf := (if_neg c1).symm.trans hf
        refine lv_iconst (v := 0) hx hb dX7_isSound_10 (by decide) ?_
        refine lv_istore_n (lv' := [(2, .int (0 : Int32)), (0, .ref (ad t i 0)), (1, .int w1)]) hx hb dX7_isSound_11 rfl hl (by decide) rfl (fun ls hl => ?_)
        have L12 : ∀ (k : Nat) (w1 : Int32) (w2 : Int32) (H : Heap) (locs : List Loc) (ls : Array Slot), f7_isSound_l12 g (f7_isSound_l2 g k2) k w1 w2 = some r → Wl D cy ad ns (Aw ad ns s.heap.size) s.heap (uI M t i g) H locs → lv_has ls 3 [(0, .ref (ad t i 0)), (1, .int w1), (2, .int w2)] → W p l e { frames := 2, cells := 0, slots := 0, locals := 46 } s m ([.ref (ad t i 0)] : List Value).toArray below meth c H locs 0 0 (QI below D cy ad ns [.ref (ad t i 0)] s r (uI M t i g)) (F0 m 12 ls []) := by
          intro k
          induction k with
          | zero => intro w1 w2 H locs ls hf; exact absurd hf (by simp [f7_isSound_l12])
          | succ k12 ih12 =>
            intro w1 w2 H locs ls hf hW hl
            have hf : f7_isSound_b12 g (f7_isSound_l2 g k2) (f7_isSound_l12 g (f7_isSound_l2 g k2) k12) w1 w2 = some r := hf
            unfold f7_isSound_b12 at hf
            refine lv_iload_n hx hb dX7_isSound_12 rfl (lv_at hl 2 rfl) ?_
            refine lv_bipush (v := 64) hx hb dX7_isSound_13 (by decide) ?_
            refine lv_icmp_ge (tgt := 50) hx hb dX7_isSound_15 (by decide) (fun c2 => ?_) (fun c2 => ?_)
            · replace hf := (if_pos c2).symm.trans hf
              refine lv_iinc (v := (w1 + (1 : Int32))) (lv' := [(1, .int (w1 + (1 : Int32))), (0, .ref (ad t i 0)), (2, .int w2)]) hx hb dX7_isSound_50 hl (k := 1) rfl (by first | rfl | decide) (by decide) rfl (fun ls hl => ?_)
              refine lv_goto (tgt := 2) hx hb dX7_isSound_53 (by decide) ?_
              exact ih2 _ _ _ _ hf hW (lv_sub hl [1, 0] rfl)
            · replace hf := (if_neg c2).symm.trans hf
              refine lv_aload_n hx hb dX7_isSound_18 rfl (lv_at hl 0 rfl) ?_
              refine x_get hx hb hts hown hK hW (hI.2 0 (by decide)) uI_o (hI.1 0 _) rfl inX7 0 (by decide) t_221 rfl dX7_isSound_19 ?_
              refine lv_iload_n hx hb dX7_isSound_22 rfl (lv_at hl 1 rfl) ?_
              obtain ⟨hi3, hf⟩ := ck_some hf
              refine x_aald hx hb hK hW (hI.2 1 (by decide)) uI_o (hI.1 1 _) hi3 dX7_isSound_23 ?_
              refine lv_iload_n hx hb dX7_isSound_24 rfl (lv_at hl 2 rfl) ?_
              obtain ⟨hi4, hf⟩ := rd_some hf
              refine x_iald hx hb hK hW (hI.2 _ (x_lt (vp_lt hi3) (by decide))) uI_o ((hI.1 _ _).trans (sk6 (ad := ad) (t := t) (i := i) (vp_lt hi3))) hi4 dX7_isSound_25 ?_
              generalize g ((w1).toNatClampNeg + 6) (w2).toNatClampNeg = v5 at hf ⊢
              refine lv_if_lt (tgt := 42) hx hb dX7_isSound_26 (by decide) (fun c6 => ?_) (fun c6 => ?_)
              · replace hf := (if_pos c6).symm.trans hf
                refine lv_iconst (v := 0) hx hb dX7_isSound_42 (by decide) ?_
                exact x_zret hx hb hr hlk (by first | decide | rfl) hK hW (Option.some.inj hf) rfl dX7_isSound_43
              · replace hf := (if_neg c6).symm.trans hf
                refine lv_aload_n hx hb dX7_isSound_29 rfl (lv_at hl 0 rfl) ?_
                refine x_get hx hb hts hown hK hW (hI.2 0 (by decide)) uI_o (hI.1 0 _) rfl inX7 0 (by decide) t_221 rfl dX7_isSound_30 ?_
                refine lv_iload_n hx hb dX7_isSound_33 rfl (lv_at hl 1 rfl) ?_
                obtain ⟨hi7, hf⟩ := ck_some hf
                refine x_aald hx hb hK hW (hI.2 1 (by decide)) uI_o (hI.1 1 _) hi7 dX7_isSound_34 ?_
                refine lv_iload_n hx hb dX7_isSound_35 rfl (lv_at hl 2 rfl) ?_
                obtain ⟨hi8, hf⟩ := rd_some hf
                refine x_iald hx hb hK hW (hI.2 _ (x_lt (vp_lt hi7) (by decide))) uI_o ((hI.1 _ _).trans (sk6 (ad := ad) (t := t) (i := i) (vp_lt hi7))) hi8 dX7_isSound_36 ?_
                generalize g ((w1).toNatClampNeg + 6) (w2).toNatClampNeg = v9 at hf ⊢
                refine lv_bipush (v := 15) hx hb dX7_isSound_37 (by decide) ?_
                refine lv_icmp_le (tgt := 44) hx hb dX7_isSound_39 (by decide) (fun c10 => ?_) (fun c10 => ?_)
                · replace hf := (if_pos c10).symm.trans hf
                  refine lv_iinc (v := (w2 + (1 : Int32))) (lv' := [(2, .int (w2 + (1 : Int32))), (0, .ref (ad t i 0)), (1, .int w1)]) hx hb dX7_isSound_44 hl (k := 2) rfl (by first | rfl | decide) (by decide) rfl (fun ls hl => ?_)
                  refine lv_goto (tgt := 12) hx hb dX7_isSound_47 (by decide) ?_
                  exact ih12 _ _ _ _ _ hf hW (lv_sub hl [1, 2, 0] rfl)
                · replace hf := (if_neg c10).symm.trans hf
                  refine lv_iconst (v := 0) hx hb dX7_isSound_42 (by decide) ?_
                  exact x_zret hx hb hr hlk (by first | decide | rfl) hK hW (Option.some.inj hf) rfl dX7_isSound_43
        exact L12 NF _ _ _ _ _ hf hW (lv_sub hl [1, 2, 0] rfl)
  exact L2 NF _ _ _ _ hf hW (lv_sub hl [1, 0] rfl)
def f7_copyFrom_j83 (h : Sg) (g : Sg) : Option Sg :=
  (st (va_up g 2 (va_cpy (h 2) (g 2) 0 0 128)) (fun g12 => (st (va_up g12 5 (va_cpy (h 5) (g12 5) 0 0 100)) (fun g13 => (st (va_up g13 0 (upd (g13 0) 6 (h 0 6))) (fun g14 => (st (va_up g14 0 (upd (g14 0) 7 (h 0 7))) (fun g15 => (st (va_up g15 0 (upd (g15 0) 8 (h 0 8))) (fun g16 => (st (va_up g16 0 (upd (g16 0) 9 (h 0 9))) (fun g17 => (st (va_up g17 0 (upd (g17 0) 10 (h 0 10))) (fun g18 => (some g18)))))))))))))))
def f7_copyFrom_b53 (h : Sg) (rec53 : Int32 → Sg → Option Sg) (w2 : Int32) (g : Sg) : Option Sg :=
  (if (2 : Int32) ≤ w2 then (f7_copyFrom_j83 h g) else (ck 2 w2 (ck 2 w2 (st (va_up g ((w2).toNatClampNeg + 14) (va_cpy (h ((w2).toNatClampNeg + 14)) (g ((w2).toNatClampNeg + 14)) 0 0 100)) (fun g11 => (rec53 (w2 + (1 : Int32)) g11))))))
def f7_copyFrom_l53 (h : Sg) : Nat → Int32 → Sg → Option Sg
  | 0 => fun _ _ => none
  | k + 1 => f7_copyFrom_b53 h (f7_copyFrom_l53 h k)
def f7_copyFrom_j51 (h : Sg) (g : Sg) : Option Sg :=
  (f7_copyFrom_l53 h NF (0 : Int32) g)
def f7_copyFrom_b2 (h : Sg) (rec2 : Int32 → Sg → Option Sg) (w2 : Int32) (g : Sg) : Option Sg :=
  (if (4 : Int32) ≤ w2 then (f7_copyFrom_j51 h g) else (ck 4 w2 (ck 4 w2 (st (va_up g ((w2).toNatClampNeg + 6) (va_cpy (h ((w2).toNatClampNeg + 6)) (g ((w2).toNatClampNeg + 6)) 0 0 64)) (fun g4 => (ck 4 w2 (ck 4 w2 (st (va_up g4 ((w2).toNatClampNeg + 10) (va_cpy (h ((w2).toNatClampNeg + 10)) (g4 ((w2).toNatClampNeg + 10)) 0 0 100)) (fun g7 => (rec2 (w2 + (1 : Int32)) g7))))))))))
def f7_copyFrom_l2 (h : Sg) : Nat → Int32 → Sg → Option Sg
  | 0 => fun _ _ => none
  | k + 1 => f7_copyFrom_b2 h (f7_copyFrom_l2 h k)
def f7_copyFrom (h : Sg) (g : Sg) : Option Sg :=
  (f7_copyFrom_l2 h NF (0 : Int32) g)
set_option maxHeartbeats 4000000 in
set_option maxRecDepth 100000 in
theorem f7_copyFrom_ok (l : Launch) (D : va_G) (cy : Nat → ClassId) (ad : Nat → Nat → Nat → Nat) (ns : List (Nat × Nat × Nat)) (M : Me) (t i : Nat) (hI : IsSketch cy ad ns t i) (u : Nat) (hne : u ≠ t) (hI2 : IsSketch cy ad ns u i) (h : Sg) (hO : M u i = h) (g : Sg) (m2 : Sg)  (hf : f7_copyFrom h g = some m2) : Cv l yX7_copyFrom (.code yX7_copyFrom cX7_copyFrom 3 none :: tk_tb) { frames := 1, cells := 0, slots := 0, locals := 26 } D cy ad ns [.ref (ad t i 0), .ref (ad u i 0)] (uI M t i g) (uI M t i m2) := by
  refine Cv.of (by decide) (Nat.le_of_ble_eq_true rfl) ?_
  intro p e s m below meth c ls hE hW hl
  obtain ⟨hx, hb, hr, hml, hown, hts, hlk, hK⟩ := hE
  have hA : ∀ q : Nat, s.heap.size ≤ q → Aw ad ns s.heap.size q := fun q h => Or.inr h
  have hl : lv_has ls 3 [(0, .ref (ad t i 0)), (1, .ref (ad u i 0))] := hl
  unfold f7_copyFrom at hf
  have J83 : ∀ (g : Sg) (H : Heap) (locs : List Loc) (ls : Array Slot), f7_copyFrom_j83 h g = some m2 → Wl D cy ad ns (Aw ad ns s.heap.size) s.heap (uI M t i g) H locs → lv_has ls 3 [(0, .ref (ad t i 0)), (1, .ref (ad u i 0))] → W p l e { frames := 1, cells := 0, slots := 0, locals := 26 } s m ([.ref (ad t i 0), .ref (ad u i 0)] : List Value).toArray below meth c H locs 0 0 (QV below D cy ad ns [.ref (ad t i 0), .ref (ad u i 0)] s (uI M t i m2)) (F0 m 83 ls []) := by
    intro g H locs ls hf hW hl
    unfold f7_copyFrom_j83 at hf
    refine lv_aload_n hx hb dX7_copyFrom_83 rfl (lv_at hl 1 rfl) ?_
    refine x_get hx hb hts hown hK hW (hI2.2 0 (by decide)) (uI_oth hne hO) (hI2.1 0 _) rfl inX7 1 (by decide) t_223 rfl dX7_copyFrom_84 ?_
    refine lv_iconst (v := 0) hx hb dX7_copyFrom_87 (by decide) ?_
    refine lv_aload_n hx hb dX7_copyFrom_88 rfl (lv_at hl 0 rfl) ?_
    refine x_get hx hb hts hown hK hW (hI.2 0 (by decide)) uI_o (hI.1 0 _) rfl inX7 1 (by decide) t_223 rfl dX7_copyFrom_89 ?_
    refine lv_iconst (v := 0) hx hb dX7_copyFrom_92 (by decide) ?_
    refine lv_sipush (v := 128) hx hb dX7_copyFrom_93 (by decide) ?_
    replace hf := st_some hf
    refine x_copy (n := 128) hx hb (hml.trans hl.1.symm) hts hown hK hW (hI2.2 2 (by decide)) (uI_oth hne hO) (hI2.1 2 _) (hI.2 2 (by decide)) uI_o (fun _ => (hI.1 2 _)) rfl (by decide) (Nat.le_of_ble_eq_true rfl) (Nat.le_of_ble_eq_true rfl) uC_leaf t_682 (Nat.le_of_ble_eq_true rfl) (Nat.le_of_ble_eq_true rfl) dX7_copyFrom_96 (fun H locs hW => ?_)
    generalize (va_up g 2 (va_cpy (h 2) (g 2) 0 0 128)) = g12 at hf hW
    refine lv_aload_n hx hb dX7_copyFrom_99 rfl (lv_at hl 1 rfl) ?_
    refine x_get hx hb hts hown hK hW (hI2.2 0 (by decide)) (uI_oth hne hO) (hI2.1 0 _) rfl inX7 4 (by decide) t_227 rfl dX7_copyFrom_100 ?_
    refine lv_iconst (v := 0) hx hb dX7_copyFrom_103 (by decide) ?_
    refine lv_aload_n hx hb dX7_copyFrom_104 rfl (lv_at hl 0 rfl) ?_
    refine x_get hx hb hts hown hK hW (hI.2 0 (by decide)) uI_o (hI.1 0 _) rfl inX7 4 (by decide) t_227 rfl dX7_copyFrom_105 ?_
    refine lv_iconst (v := 0) hx hb dX7_copyFrom_108 (by decide) ?_
    refine lv_bipush (v := 100) hx hb dX7_copyFrom_109 (by decide) ?_
    replace hf := st_some hf
    refine x_copy (n := 100) hx hb (hml.trans hl.1.symm) hts hown hK hW (hI2.2 5 (by decide)) (uI_oth hne hO) (hI2.1 5 _) (hI.2 5 (by decide)) uI_o (fun _ => (hI.1 5 _)) rfl (by decide) (Nat.le_of_ble_eq_true rfl) (Nat.le_of_ble_eq_true rfl) uC_leaf t_682 (Nat.le_of_ble_eq_true rfl) (Nat.le_of_ble_eq_true rfl) dX7_copyFrom_111 (fun H locs hW => ?_)
    generalize (va_up g12 5 (va_cpy (h 5) (g12 5) 0 0 100)) = g13 at hf hW
    refine lv_aload_n hx hb dX7_copyFrom_114 rfl (lv_at hl 0 rfl) ?_
    refine lv_aload_n hx hb dX7_copyFrom_115 rfl (lv_at hl 1 rfl) ?_
    refine x_get hx hb hts hown hK hW (hI2.2 0 (by decide)) (uI_oth hne hO) (hI2.1 0 _) rfl inX7 6 (by decide) t_229 rfl dX7_copyFrom_116 ?_
    replace hf := st_some hf
    refine x_put hx hb hts hown hK hW (hI.2 0 (by decide)) uI_o (hI.1 0 _) rfl inX7 tyX7 tyX7_ok nmX7 6 (by decide) t_229 rfl rfl (Nat.le_of_ble_eq_true rfl) (hI.1 0 _) uC_leaf dX7_copyFrom_119 (fun H locs hW => ?_)
    generalize (va_up g13 0 (upd (g13 0) 6 (h 0 6))) = g14 at hf hW
    refine lv_aload_n hx hb dX7_copyFrom_122 rfl (lv_at hl 0 rfl) ?_
    refine lv_aload_n hx hb dX7_copyFrom_123 rfl (lv_at hl 1 rfl) ?_
    refine x_get hx hb hts hown hK hW (hI2.2 0 (by decide)) (uI_oth hne hO) (hI2.1 0 _) rfl inX7 7 (by decide) t_230 rfl dX7_copyFrom_124 ?_
    replace hf := st_some hf
    refine x_put hx hb hts hown hK hW (hI.2 0 (by decide)) uI_o (hI.1 0 _) rfl inX7 tyX7 tyX7_ok nmX7 7 (by decide) t_230 rfl rfl (Nat.le_of_ble_eq_true rfl) (hI.1 0 _) uC_leaf dX7_copyFrom_127 (fun H locs hW => ?_)
    generalize (va_up g14 0 (upd (g14 0) 7 (h 0 7))) = g15 at hf hW
    refine lv_aload_n hx hb dX7_copyFrom_130 rfl (lv_at hl 0 rfl) ?_
    refine lv_aload_n hx hb dX7_copyFrom_131 rfl (lv_at hl 1 rfl) ?_
    refine x_get hx hb hts hown hK hW (hI2.2 0 (by decide)) (uI_oth hne hO) (hI2.1 0 _) rfl inX7 8 (by decide) t_231 rfl dX7_copyFrom_132 ?_
    replace hf := st_some hf
    refine x_put hx hb hts hown hK hW (hI.2 0 (by decide)) uI_o (hI.1 0 _) rfl inX7 tyX7 tyX7_ok nmX7 8 (by decide) t_231 rfl rfl (Nat.le_of_ble_eq_true rfl) (hI.1 0 _) uC_leaf dX7_copyFrom_135 (fun H locs hW => ?_)
    generalize (va_up g15 0 (upd (g15 0) 8 (h 0 8))) = g16 at hf hW
    refine lv_aload_n hx hb dX7_copyFrom_138 rfl (lv_at hl 0 rfl) ?_
    refine lv_aload_n hx hb dX7_copyFrom_139 rfl (lv_at hl 1 rfl) ?_
    refine x_get hx hb hts hown hK hW (hI2.2 0 (by decide)) (uI_oth hne hO) (hI2.1 0 _) rfl inX7 9 (by decide) t_232 rfl dX7_copyFrom_140 ?_
    replace hf := st_some hf
    refine x_put hx hb hts hown hK hW (hI.2 0 (by decide)) uI_o (hI.1 0 _) rfl inX7 tyX7 tyX7_ok nmX7 9 (by decide) t_232 rfl rfl (Nat.le_of_ble_eq_true rfl) (hI.1 0 _) uC_leaf dX7_copyFrom_143 (fun H locs hW => ?_)
    generalize (va_up g16 0 (upd (g16 0) 9 (h 0 9))) = g17 at hf hW
    refine lv_aload_n hx hb dX7_copyFrom_146 rfl (lv_at hl 0 rfl) ?_
    refine lv_aload_n hx hb dX7_copyFrom_147 rfl (lv_at hl 1 rfl) ?_
    refine x_get hx hb hts hown hK hW (hI2.2 0 (by decide)) (uI_oth hne hO) (hI2.1 0 _) rfl inX7 10 (by decide) t_234 rfl dX7_copyFrom_148 ?_
    replace hf := st_some hf
    refine x_put hx hb hts hown hK hW (hI.2 0 (by decide)) uI_o (hI.1 0 _) rfl inX7 tyX7 tyX7_ok nmX7 10 (by decide) t_234 rfl rfl (Nat.le_of_ble_eq_true rfl) (hI.1 0 _) uC_leaf dX7_copyFrom_151 (fun H locs hW => ?_)
    generalize (va_up g17 0 (upd (g17 0) 10 (h 0 10))) = g18 at hf hW
    exact x_vret hx hb hr hlk hK hW (congrArg (fun q => (uI M t i q)) (Option.some.inj hf)) dX7_copyFrom_154
  have J51 : ∀ (g : Sg) (H : Heap) (locs : List Loc) (ls : Array Slot), f7_copyFrom_j51 h g = some m2 → Wl D cy ad ns (Aw ad ns s.heap.size) s.heap (uI M t i g) H locs → lv_has ls 3 [(0, .ref (ad t i 0)), (1, .ref (ad u i 0))] → W p l e { frames := 1, cells := 0, slots := 0, locals := 26 } s m ([.ref (ad t i 0), .ref (ad u i 0)] : List Value).toArray below meth c H locs 0 0 (QV below D cy ad ns [.ref (ad t i 0), .ref (ad u i 0)] s (uI M t i m2)) (F0 m 51 ls []) := by
    intro g H locs ls hf hW hl
    unfold f7_copyFrom_j51 at hf
    refine lv_iconst (v := 0) hx hb dX7_copyFrom_51 (by decide) ?_
    refine lv_istore_n (lv' := [(2, .int (0 : Int32)), (0, .ref (ad t i 0)), (1, .ref (ad u i 0))]) hx hb dX7_copyFrom_52 rfl hl (by decide) rfl (fun ls hl => ?_)
    have L53 : ∀ (k : Nat) (w2 : Int32) (g : Sg) (H : Heap) (locs : List Loc) (ls : Array Slot), f7_copyFrom_l53 h k w2 g = some m2 → Wl D cy ad ns (Aw ad ns s.heap.size) s.heap (uI M t i g) H locs → lv_has ls 3 [(0, .ref (ad t i 0)), (1, .ref (ad u i 0)), (2, .int w2)] → W p l e { frames := 1, cells := 0, slots := 0, locals := 26 } s m ([.ref (ad t i 0), .ref (ad u i 0)] : List Value).toArray below meth c H locs 0 0 (QV below D cy ad ns [.ref (ad t i 0), .ref (ad u i 0)] s (uI M t i m2)) (F0 m 53 ls []) := by
      intro k
      induction k with
      | zero => intro w2 g H locs ls hf; exact absurd hf (by simp [f7_copyFrom_l53])
      | succ k53 ih53 =>
        intro w2 g H locs ls hf hW hl
        have hf : f7_copyFrom_b53 h (f7_copyFrom_l53 h k53) w2 g = some m2 := hf
        unfold f7_copyFrom_b53 at hf
        refine lv_iload_n hx hb dX7_copyFrom_53 rfl (lv_at hl 2 rfl) ?_
        refine lv_iconst (v := 2) hx hb dX7_copyFrom_54 (by decide) ?_
        refine lv_icmp_ge (tgt := 83) hx hb dX7_copyFrom_55 (by decide) (fun c8 => ?_) (fun c8 => ?_)
        · replace hf := (if_pos c8).symm.trans hf
          exact J83 _ _ _ _ hf hW (lv_sub hl [0, 1] rfl)
        · replace hf := (if_neg c8).symm.trans hf
          refine lv_aload_n hx hb dX7_copyFrom_58 rfl (lv_at hl 1 rfl) ?_
          refine x_get hx hb hts hown hK hW (hI2.2 0 (by decide)) (uI_oth hne hO) (hI2.1 0 _) rfl inX7 3 (by decide) t_226 rfl dX7_copyFrom_59 ?_
          refine lv_iload_n hx hb dX7_copyFrom_62 rfl (lv_at hl 2 rfl) ?_
          obtain ⟨hi9, hf⟩ := ck_some hf
          refine x_aald hx hb hK hW (hI2.2 4 (by decide)) (uI_oth hne hO) (hI2.1 4 _) hi9 dX7_copyFrom_63 ?_
          refine lv_iconst (v := 0) hx hb dX7_copyFrom_64 (by decide) ?_
          refine lv_aload_n hx hb dX7_copyFrom_65 rfl (lv_at hl 0 rfl) ?_
          refine x_get hx hb hts hown hK hW (hI.2 0 (by decide)) uI_o (hI.1 0 _) rfl inX7 3 (by decide) t_226 rfl dX7_copyFrom_66 ?_
          refine lv_iload_n hx hb dX7_copyFrom_69 rfl (lv_at hl 2 rfl) ?_
          obtain ⟨hi10, hf⟩ := ck_some hf
          refine x_aald hx hb hK hW (hI.2 4 (by decide)) uI_o (hI.1 4 _) hi10 dX7_copyFrom_70 ?_
          refine lv_iconst (v := 0) hx hb dX7_copyFrom_71 (by decide) ?_
          refine lv_bipush (v := 100) hx hb dX7_copyFrom_72 (by decide) ?_
          replace hf := st_some hf
          refine x_copy (n := 100) hx hb (hml.trans hl.1.symm) hts hown hK hW (hI2.2 _ (x_lt (vp_lt hi9) (by decide))) (uI_oth hne hO) ((hI2.1 _ _).trans (sk14 (ad := ad) (t := u) (i := i) (vp_lt hi9))) (hI.2 _ (x_lt (vp_lt hi10) (by decide))) uI_o (fun _ => ((hI.1 _ _).trans (sk14 (ad := ad) (t := t) (i := i) (vp_lt hi10)))) rfl (by decide) (Nat.le_of_ble_eq_true rfl) (Nat.le_of_ble_eq_true rfl) uC_leaf t_682 (Nat.le_of_ble_eq_true rfl) (Nat.le_of_ble_eq_true rfl) dX7_copyFrom_74 (fun H locs hW => ?_)
          generalize (va_up g ((w2).toNatClampNeg + 14) (va_cpy (h ((w2).toNatClampNeg + 14)) (g ((w2).toNatClampNeg + 14)) 0 0 100)) = g11 at hf hW
          refine lv_iinc (v := (w2 + (1 : Int32))) (lv' := [(2, .int (w2 + (1 : Int32))), (0, .ref (ad t i 0)), (1, .ref (ad u i 0))]) hx hb dX7_copyFrom_77 hl (k := 2) rfl (by first | rfl | decide) (by decide) rfl (fun ls hl => ?_)
          refine lv_goto (tgt := 53) hx hb dX7_copyFrom_80 (by decide) ?_
          exact ih53 _ _ _ _ _ hf hW (lv_sub hl [1, 2, 0] rfl)
    exact L53 NF _ _ _ _ _ hf hW (lv_sub hl [1, 2, 0] rfl)
  refine lv_iconst (v := 0) hx hb dX7_copyFrom_0 (by decide) ?_
  refine lv_istore_n (lv' := [(2, .int (0 : Int32)), (0, .ref (ad t i 0)), (1, .ref (ad u i 0))]) hx hb dX7_copyFrom_1 rfl hl (by decide) rfl (fun ls hl => ?_)
  have L2 : ∀ (k : Nat) (w2 : Int32) (g : Sg) (H : Heap) (locs : List Loc) (ls : Array Slot), f7_copyFrom_l2 h k w2 g = some m2 → Wl D cy ad ns (Aw ad ns s.heap.size) s.heap (uI M t i g) H locs → lv_has ls 3 [(0, .ref (ad t i 0)), (1, .ref (ad u i 0)), (2, .int w2)] → W p l e { frames := 1, cells := 0, slots := 0, locals := 26 } s m ([.ref (ad t i 0), .ref (ad u i 0)] : List Value).toArray below meth c H locs 0 0 (QV below D cy ad ns [.ref (ad t i 0), .ref (ad u i 0)] s (uI M t i m2)) (F0 m 2 ls []) := by
    intro k
    induction k with
    | zero => intro w2 g H locs ls hf; exact absurd hf (by simp [f7_copyFrom_l2])
    | succ k2 ih2 =>
      intro w2 g H locs ls hf hW hl
      have hf : f7_copyFrom_b2 h (f7_copyFrom_l2 h k2) w2 g = some m2 := hf
      unfold f7_copyFrom_b2 at hf
      refine lv_iload_n hx hb dX7_copyFrom_2 rfl (lv_at hl 2 rfl) ?_
      refine lv_iconst (v := 4) hx hb dX7_copyFrom_3 (by decide) ?_
      refine lv_icmp_ge (tgt := 51) hx hb dX7_copyFrom_4 (by decide) (fun c1 => ?_) (fun c1 => ?_)
      · replace hf := (if_pos c1).symm.trans hf
        exact J51 _ _ _ _ hf hW (lv_sub hl [0, 1] rfl)
      · replace hf := (if_neg c1).symm.trans hf
        refine lv_aload_n hx hb dX7_copyFrom_7 rfl (lv_at hl 1 rfl) ?_
        refine x_get hx hb hts hown hK hW (hI2.2 0 (by decide)) (uI_oth hne hO) (hI2.1 0 _) rfl inX7 0 (by decide) t_221 rfl dX7_copyFrom_8 ?_
        refine lv_iload_n hx hb dX7_copyFrom_11 rfl (lv_at hl 2 rfl) ?_
        obtain ⟨hi2, hf⟩ := ck_some hf
        refine x_aald hx hb hK hW (hI2.2 1 (by decide)) (uI_oth hne hO) (hI2.1 1 _) hi2 dX7_copyFrom_12 ?_
        refine lv_iconst (v := 0) hx hb dX7_copyFrom_13 (by decide) ?_
        refine lv_aload_n hx hb dX7_copyFrom_14 rfl (lv_at hl 0 rfl) ?_
        refine x_get hx hb hts hown hK hW (hI.2 0 (by decide)) uI_o (hI.1 0 _) rfl inX7 0 (by decide) t_221 rfl dX7_copyFrom_15 ?_
        refine lv_iload_n hx hb dX7_copyFrom_18 rfl (lv_at hl 2 rfl) ?_
        obtain ⟨hi3, hf⟩ := ck_some hf
        refine x_aald hx hb hK hW (hI.2 1 (by decide)) uI_o (hI.1 1 _) hi3 dX7_copyFrom_19 ?_
        refine lv_iconst (v := 0) hx hb dX7_copyFrom_20 (by decide) ?_
        refine lv_bipush (v := 64) hx hb dX7_copyFrom_21 (by decide) ?_
        replace hf := st_some hf
        refine x_copy (n := 64) hx hb (hml.trans hl.1.symm) hts hown hK hW (hI2.2 _ (x_lt (vp_lt hi2) (by decide))) (uI_oth hne hO) ((hI2.1 _ _).trans (sk6 (ad := ad) (t := u) (i := i) (vp_lt hi2))) (hI.2 _ (x_lt (vp_lt hi3) (by decide))) uI_o (fun _ => ((hI.1 _ _).trans (sk6 (ad := ad) (t := t) (i := i) (vp_lt hi3)))) rfl (by decide) (Nat.le_of_ble_eq_true rfl) (Nat.le_of_ble_eq_true rfl) uC_leaf t_682 (Nat.le_of_ble_eq_true rfl) (Nat.le_of_ble_eq_true rfl) dX7_copyFrom_23 (fun H locs hW => ?_)
        generalize (va_up g ((w2).toNatClampNeg + 6) (va_cpy (h ((w2).toNatClampNeg + 6)) (g ((w2).toNatClampNeg + 6)) 0 0 64)) = g4 at hf hW
        refine lv_aload_n hx hb dX7_copyFrom_26 rfl (lv_at hl 1 rfl) ?_
        refine x_get hx hb hts hown hK hW (hI2.2 0 (by decide)) (uI_oth hne hO) (hI2.1 0 _) rfl inX7 2 (by decide) t_225 rfl dX7_copyFrom_27 ?_
        refine lv_iload_n hx hb dX7_copyFrom_30 rfl (lv_at hl 2 rfl) ?_
        obtain ⟨hi5, hf⟩ := ck_some hf
        refine x_aald hx hb hK hW (hI2.2 3 (by decide)) (uI_oth hne hO) (hI2.1 3 _) hi5 dX7_copyFrom_31 ?_
        refine lv_iconst (v := 0) hx hb dX7_copyFrom_32 (by decide) ?_
        refine lv_aload_n hx hb dX7_copyFrom_33 rfl (lv_at hl 0 rfl) ?_
        refine x_get hx hb hts hown hK hW (hI.2 0 (by decide)) uI_o (hI.1 0 _) rfl inX7 2 (by decide) t_225 rfl dX7_copyFrom_34 ?_
        refine lv_iload_n hx hb dX7_copyFrom_37 rfl (lv_at hl 2 rfl) ?_
        obtain ⟨hi6, hf⟩ := ck_some hf
        refine x_aald hx hb hK hW (hI.2 3 (by decide)) uI_o (hI.1 3 _) hi6 dX7_copyFrom_38 ?_
        refine lv_iconst (v := 0) hx hb dX7_copyFrom_39 (by decide) ?_
        refine lv_bipush (v := 100) hx hb dX7_copyFrom_40 (by decide) ?_
        replace hf := st_some hf
        refine x_copy (n := 100) hx hb (hml.trans hl.1.symm) hts hown hK hW (hI2.2 _ (x_lt (vp_lt hi5) (by decide))) (uI_oth hne hO) ((hI2.1 _ _).trans (sk10 (ad := ad) (t := u) (i := i) (vp_lt hi5))) (hI.2 _ (x_lt (vp_lt hi6) (by decide))) uI_o (fun _ => ((hI.1 _ _).trans (sk10 (ad := ad) (t := t) (i := i) (vp_lt hi6)))) rfl (by decide) (Nat.le_of_ble_eq_true rfl) (Nat.le_of_ble_eq_true rfl) uC_leaf t_682 (Nat.le_of_ble_eq_true rfl) (Nat.le_of_ble_eq_true rfl) dX7_copyFrom_42 (fun H locs hW => ?_)
        generalize (va_up g4 ((w2).toNatClampNeg + 10) (va_cpy (h ((w2).toNatClampNeg + 10)) (g4 ((w2).toNatClampNeg + 10)) 0 0 100)) = g7 at hf hW
        refine lv_iinc (v := (w2 + (1 : Int32))) (lv' := [(2, .int (w2 + (1 : Int32))), (0, .ref (ad t i 0)), (1, .ref (ad u i 0))]) hx hb dX7_copyFrom_45 hl (k := 2) rfl (by first | rfl | decide) (by decide) rfl (fun ls hl => ?_)
        refine lv_goto (tgt := 2) hx hb dX7_copyFrom_48 (by decide) ?_
        exact ih2 _ _ _ _ _ hf hW (lv_sub hl [1, 2, 0] rfl)
  exact L2 NF _ _ _ _ _ hf hW (lv_sub hl [1, 2, 0] rfl)
