def f9_note (a1 : Int32) (g : Sg) : Option Sg :=
  (wr 300 (((g 0 1) + (g 0 2)) - ((g 0 1) + (g 0 2)) / (300 : Int32) * (300 : Int32)) (va_up g 1 (upd (g 1) ((((g 0 1) + (g 0 2)) - ((g 0 1) + (g 0 2)) / (300 : Int32) * (300 : Int32))).toNatClampNeg a1)) (fun g2 => (if (300 : Int32) ≤ (g2 0 2) then (st (va_up g2 0 (upd (g2 0) 1 (((g2 0 1) + (1 : Int32)) - ((g2 0 1) + (1 : Int32)) / (300 : Int32) * (300 : Int32)))) (fun g4 => (some g4))) else (st (va_up g2 0 (upd (g2 0) 2 ((g2 0 2) + (1 : Int32)))) (fun g5 => (some g5))))))
set_option maxHeartbeats 4000000 in
set_option maxRecDepth 100000 in
theorem f9_note_ok (l : Launch) (D : va_G) (cy : Nat → ClassId) (ad : Nat → Nat → Nat → Nat) (ns : List (Nat × Nat × Nat)) (M : Me) (t i : Nat) (hI : IsTrace cy ad ns t i) (g : Sg) (a1 : Int32) (m2 : Sg)  (hf : f9_note a1 g = some m2) : Cv l yX9_note (.code yX9_note cX9_note 2 none :: tk_tb) { frames := 0, cells := 0, slots := 0, locals := 0 } D cy ad ns [.ref (ad t i 0), .int a1] (uI M t i g) (uI M t i m2) := by
  refine Cv.of (by decide) (Nat.le_of_ble_eq_true rfl) ?_
  intro p e s m below meth c ls hE hW hl
  obtain ⟨hx, hb, hr, hml, hown, hts, hlk, hK⟩ := hE
  have hA : ∀ q : Nat, s.heap.size ≤ q → Aw ad ns s.heap.size q := fun q h => Or.inr h
  have hl : lv_has ls 2 [(0, .ref (ad t i 0)), (1, .int a1)] := hl
  unfold f9_note at hf
  refine lv_aload_n hx hb dX9_note_0 rfl (lv_at hl 0 rfl) ?_
  refine x_get hx hb hts hown hK hW (hI.2 0 (by decide)) uI_o (hI.1 0 _) rfl inX9 0 (by decide) t_163 rfl dX9_note_1 ?_
  refine lv_aload_n hx hb dX9_note_4 rfl (lv_at hl 0 rfl) ?_
  refine x_get hx hb hts hown hK hW (hI.2 0 (by decide)) uI_o (hI.1 0 _) rfl inX9 1 (by decide) t_164 rfl dX9_note_5 ?_
  refine lv_aload_n hx hb dX9_note_8 rfl (lv_at hl 0 rfl) ?_
  refine x_get hx hb hts hown hK hW (hI.2 0 (by decide)) uI_o (hI.1 0 _) rfl inX9 2 (by decide) t_165 rfl dX9_note_9 ?_
  refine lv_iadd hx hb dX9_note_12 ?_
  refine lv_sipush (v := 300) hx hb dX9_note_13 (by decide) ?_
  refine lv_irem hx hb dX9_note_16 (by decide) ?_
  refine lv_iload_n hx hb dX9_note_17 rfl (lv_at hl 1 rfl) ?_
  obtain ⟨hi1, hf⟩ := wr_some hf
  refine x_iast hx hb hK hW (hI.2 1 (by decide)) uI_o (fun _ => (hI.1 1 _)) hi1 uC_leaf dX9_note_18 (fun H locs hW => ?_)
  generalize (va_up g 1 (upd (g 1) ((((g 0 1) + (g 0 2)) - ((g 0 1) + (g 0 2)) / (300 : Int32) * (300 : Int32))).toNatClampNeg a1)) = g2 at hf hW
  refine lv_aload_n hx hb dX9_note_19 rfl (lv_at hl 0 rfl) ?_
  refine x_get hx hb hts hown hK hW (hI.2 0 (by decide)) uI_o (hI.1 0 _) rfl inX9 2 (by decide) t_165 rfl dX9_note_20 ?_
  refine lv_sipush (v := 300) hx hb dX9_note_23 (by decide) ?_
  refine lv_icmp_ge (tgt := 42) hx hb dX9_note_26 (by decide) (fun c3 => ?_) (fun c3 => ?_)
  · replace hf := (if_pos c3).symm.trans hf
    refine lv_aload_n hx hb dX9_note_42 rfl (lv_at hl 0 rfl) ?_
    refine lv_aload_n hx hb dX9_note_43 rfl (lv_at hl 0 rfl) ?_
    refine x_get hx hb hts hown hK hW (hI.2 0 (by decide)) uI_o (hI.1 0 _) rfl inX9 1 (by decide) t_164 rfl dX9_note_44 ?_
    refine lv_iconst (v := 1) hx hb dX9_note_47 (by decide) ?_
    refine lv_iadd hx hb dX9_note_48 ?_
    refine lv_sipush (v := 300) hx hb dX9_note_49 (by decide) ?_
    refine lv_irem hx hb dX9_note_52 (by decide) ?_
    replace hf := st_some hf
    refine x_put hx hb hts hown hK hW (hI.2 0 (by decide)) uI_o (hI.1 0 _) rfl inX9 tyX9 tyX9_ok nmX9 1 (by decide) t_164 rfl rfl (Nat.le_of_ble_eq_true rfl) (hI.1 0 _) uC_leaf dX9_note_53 (fun H locs hW => ?_)
    generalize (va_up g2 0 (upd (g2 0) 1 (((g2 0 1) + (1 : Int32)) - ((g2 0 1) + (1 : Int32)) / (300 : Int32) * (300 : Int32)))) = g4 at hf hW
    exact x_vret hx hb hr hlk hK hW (congrArg (fun q => (uI M t i q)) (Option.some.inj hf)) dX9_note_56
  · replace hf := (if_neg c3).symm.trans hf
    refine lv_aload_n hx hb dX9_note_29 rfl (lv_at hl 0 rfl) ?_
    refine lv_dup hx hb dX9_note_30 rfl ?_
    refine x_get hx hb hts hown hK hW (hI.2 0 (by decide)) uI_o (hI.1 0 _) rfl inX9 2 (by decide) t_165 rfl dX9_note_31 ?_
    refine lv_iconst (v := 1) hx hb dX9_note_34 (by decide) ?_
    refine lv_iadd hx hb dX9_note_35 ?_
    replace hf := st_some hf
    refine x_put hx hb hts hown hK hW (hI.2 0 (by decide)) uI_o (hI.1 0 _) rfl inX9 tyX9 tyX9_ok nmX9 2 (by decide) t_165 rfl rfl (Nat.le_of_ble_eq_true rfl) (hI.1 0 _) uC_leaf dX9_note_36 (fun H locs hW => ?_)
    generalize (va_up g2 0 (upd (g2 0) 2 ((g2 0 2) + (1 : Int32)))) = g5 at hf hW
    refine lv_goto (tgt := 56) hx hb dX9_note_39 (by decide) ?_
    exact x_vret hx hb hr hlk hK hW (congrArg (fun q => (uI M t i q)) (Option.some.inj hf)) dX9_note_56
def f9_keyAt (g : Sg) (a1 : Int32) : Option Int32 :=
  (if a1 < 0 then (some (-1 : Int32)) else (if (g 0 2) ≤ a1 then (some (-1 : Int32)) else (rd 300 (g 1) (((g 0 1) + a1) - ((g 0 1) + a1) / (300 : Int32) * (300 : Int32)) (fun v4 => (some v4)))))
set_option maxHeartbeats 4000000 in
set_option maxRecDepth 100000 in
theorem f9_keyAt_ok (l : Launch) (D : va_G) (cy : Nat → ClassId) (ad : Nat → Nat → Nat → Nat) (ns : List (Nat × Nat × Nat)) (M : Me) (t i : Nat) (hI : IsTrace cy ad ns t i) (g : Sg) (a1 : Int32) (r : Int32)  (hf : f9_keyAt g a1 = some r) : Ci l yX9_keyAt (.code yX9_keyAt cX9_keyAt 2 (some .int) :: tk_tb) { frames := 0, cells := 0, slots := 0, locals := 0 } D cy ad ns [.ref (ad t i 0), .int a1] (uI M t i g) r (uI M t i g) := by
  refine Ci.of (by decide) (Nat.le_of_ble_eq_true rfl) ?_
  intro p e s m below meth c ls hE hW hl
  obtain ⟨hx, hb, hr, hml, hown, hts, hlk, hK⟩ := hE
  have hA : ∀ q : Nat, s.heap.size ≤ q → Aw ad ns s.heap.size q := fun q h => Or.inr h
  have hl : lv_has ls 2 [(0, .ref (ad t i 0)), (1, .int a1)] := hl
  unfold f9_keyAt at hf
  refine lv_iload_n hx hb dX9_keyAt_0 rfl (lv_at hl 1 rfl) ?_
  refine lv_if_lt (tgt := 30) hx hb dX9_keyAt_1 (by decide) (fun c1 => ?_) (fun c1 => ?_)
  · replace hf := (if_pos c1).symm.trans hf
    refine lv_iconst (v := -1) hx hb dX9_keyAt_30 (by decide) ?_
    exact x_iret hx hb hr hlk hK hW (Option.some.inj hf) rfl dX9_keyAt_31
  · replace hf := (if_neg c1).symm.trans hf
    refine lv_iload_n hx hb dX9_keyAt_4 rfl (lv_at hl 1 rfl) ?_
    refine lv_aload_n hx hb dX9_keyAt_5 rfl (lv_at hl 0 rfl) ?_
    refine x_get hx hb hts hown hK hW (hI.2 0 (by decide)) uI_o (hI.1 0 _) rfl inX9 2 (by decide) t_165 rfl dX9_keyAt_6 ?_
    refine lv_icmp_ge (tgt := 30) hx hb dX9_keyAt_9 (by decide) (fun c2 => ?_) (fun c2 => ?_)
    · replace hf := (if_pos c2).symm.trans hf
      refine lv_iconst (v := -1) hx hb dX9_keyAt_30 (by decide) ?_
      exact x_iret hx hb hr hlk hK hW (Option.some.inj hf) rfl dX9_keyAt_31
    · replace hf := (if_neg c2).symm.trans hf
      refine lv_aload_n hx hb dX9_keyAt_12 rfl (lv_at hl 0 rfl) ?_
      refine x_get hx hb hts hown hK hW (hI.2 0 (by decide)) uI_o (hI.1 0 _) rfl inX9 0 (by decide) t_163 rfl dX9_keyAt_13 ?_
      refine lv_aload_n hx hb dX9_keyAt_16 rfl (lv_at hl 0 rfl) ?_
      refine x_get hx hb hts hown hK hW (hI.2 0 (by decide)) uI_o (hI.1 0 _) rfl inX9 1 (by decide) t_164 rfl dX9_keyAt_17 ?_
      refine lv_iload_n hx hb dX9_keyAt_20 rfl (lv_at hl 1 rfl) ?_
      refine lv_iadd hx hb dX9_keyAt_21 ?_
      refine lv_sipush (v := 300) hx hb dX9_keyAt_22 (by decide) ?_
      refine lv_irem hx hb dX9_keyAt_25 (by decide) ?_
      obtain ⟨hi3, hf⟩ := rd_some hf
      refine x_iald hx hb hK hW (hI.2 1 (by decide)) uI_o (hI.1 1 _) hi3 dX9_keyAt_26 ?_
      generalize g 1 ((((g 0 1) + a1) - ((g 0 1) + a1) / (300 : Int32) * (300 : Int32))).toNatClampNeg = v4 at hf ⊢
      refine lv_goto (tgt := 31) hx hb dX9_keyAt_27 (by decide) ?_
      exact x_iret hx hb hr hlk hK hW (Option.some.inj hf) rfl dX9_keyAt_31
def f9_copyFrom (h : Sg) (g : Sg) : Option Sg :=
  (st (va_up g 1 (va_cpy (h 1) (g 1) 0 0 300)) (fun g1 => (st (va_up g1 0 (upd (g1 0) 1 (h 0 1))) (fun g2 => (st (va_up g2 0 (upd (g2 0) 2 (h 0 2))) (fun g3 => (some g3)))))))
set_option maxHeartbeats 4000000 in
set_option maxRecDepth 100000 in
theorem f9_copyFrom_ok (l : Launch) (D : va_G) (cy : Nat → ClassId) (ad : Nat → Nat → Nat → Nat) (ns : List (Nat × Nat × Nat)) (M : Me) (t i : Nat) (hI : IsTrace cy ad ns t i) (u : Nat) (hne : u ≠ t) (hI2 : IsTrace cy ad ns u i) (h : Sg) (hO : M u i = h) (g : Sg) (m2 : Sg)  (hf : f9_copyFrom h g = some m2) : Cv l yX9_copyFrom (.code yX9_copyFrom cX9_copyFrom 2 none :: tk_tb) { frames := 1, cells := 0, slots := 0, locals := 26 } D cy ad ns [.ref (ad t i 0), .ref (ad u i 0)] (uI M t i g) (uI M t i m2) := by
  refine Cv.of (by decide) (Nat.le_of_ble_eq_true rfl) ?_
  intro p e s m below meth c ls hE hW hl
  obtain ⟨hx, hb, hr, hml, hown, hts, hlk, hK⟩ := hE
  have hA : ∀ q : Nat, s.heap.size ≤ q → Aw ad ns s.heap.size q := fun q h => Or.inr h
  have hl : lv_has ls 2 [(0, .ref (ad t i 0)), (1, .ref (ad u i 0))] := hl
  unfold f9_copyFrom at hf
  refine lv_aload_n hx hb dX9_copyFrom_0 rfl (lv_at hl 1 rfl) ?_
  refine x_get hx hb hts hown hK hW (hI2.2 0 (by decide)) (uI_oth hne hO) (hI2.1 0 _) rfl inX9 0 (by decide) t_163 rfl dX9_copyFrom_1 ?_
  refine lv_iconst (v := 0) hx hb dX9_copyFrom_4 (by decide) ?_
  refine lv_aload_n hx hb dX9_copyFrom_5 rfl (lv_at hl 0 rfl) ?_
  refine x_get hx hb hts hown hK hW (hI.2 0 (by decide)) uI_o (hI.1 0 _) rfl inX9 0 (by decide) t_163 rfl dX9_copyFrom_6 ?_
  refine lv_iconst (v := 0) hx hb dX9_copyFrom_9 (by decide) ?_
  refine lv_sipush (v := 300) hx hb dX9_copyFrom_10 (by decide) ?_
  replace hf := st_some hf
  refine x_copy (n := 300) hx hb (hml.trans hl.1.symm) hts hown hK hW (hI2.2 1 (by decide)) (uI_oth hne hO) (hI2.1 1 _) (hI.2 1 (by decide)) uI_o (fun _ => (hI.1 1 _)) rfl (by decide) (Nat.le_of_ble_eq_true rfl) (Nat.le_of_ble_eq_true rfl) uC_leaf t_694 (Nat.le_of_ble_eq_true rfl) (Nat.le_of_ble_eq_true rfl) dX9_copyFrom_13 (fun H locs hW => ?_)
  generalize (va_up g 1 (va_cpy (h 1) (g 1) 0 0 300)) = g1 at hf hW
  refine lv_aload_n hx hb dX9_copyFrom_16 rfl (lv_at hl 0 rfl) ?_
  refine lv_aload_n hx hb dX9_copyFrom_17 rfl (lv_at hl 1 rfl) ?_
  refine x_get hx hb hts hown hK hW (hI2.2 0 (by decide)) (uI_oth hne hO) (hI2.1 0 _) rfl inX9 1 (by decide) t_164 rfl dX9_copyFrom_18 ?_
  replace hf := st_some hf
  refine x_put hx hb hts hown hK hW (hI.2 0 (by decide)) uI_o (hI.1 0 _) rfl inX9 tyX9 tyX9_ok nmX9 1 (by decide) t_164 rfl rfl (Nat.le_of_ble_eq_true rfl) (hI.1 0 _) uC_leaf dX9_copyFrom_21 (fun H locs hW => ?_)
  generalize (va_up g1 0 (upd (g1 0) 1 (h 0 1))) = g2 at hf hW
  refine lv_aload_n hx hb dX9_copyFrom_24 rfl (lv_at hl 0 rfl) ?_
  refine lv_aload_n hx hb dX9_copyFrom_25 rfl (lv_at hl 1 rfl) ?_
  refine x_get hx hb hts hown hK hW (hI2.2 0 (by decide)) (uI_oth hne hO) (hI2.1 0 _) rfl inX9 2 (by decide) t_165 rfl dX9_copyFrom_26 ?_
  replace hf := st_some hf
  refine x_put hx hb hts hown hK hW (hI.2 0 (by decide)) uI_o (hI.1 0 _) rfl inX9 tyX9 tyX9_ok nmX9 2 (by decide) t_165 rfl rfl (Nat.le_of_ble_eq_true rfl) (hI.1 0 _) uC_leaf dX9_copyFrom_29 (fun H locs hW => ?_)
  generalize (va_up g2 0 (upd (g2 0) 2 (h 0 2))) = g3 at hf hW
  exact x_vret hx hb hr hlk hK hW (congrArg (fun q => (uI M t i q)) (Option.some.inj hf)) dX9_copyFrom_32
def f1_beginAnew (g : Sg) : Option Sg :=
  (st (va_up g 0 (upd (g 0) 3 (0 : Int32))) (fun g1 => (st (va_up g1 0 (upd (g1 0) 4 (0 : Int32))) (fun g2 => (st (va_up g2 0 (upd (g2 0) 5 (0 : Int32))) (fun g3 => (some g3)))))))
set_option maxHeartbeats 4000000 in
set_option maxRecDepth 100000 in
theorem f1_beginAnew_ok (l : Launch) (D : va_G) (cy : Nat → ClassId) (ad : Nat → Nat → Nat → Nat) (ns : List (Nat × Nat × Nat)) (M : Me) (t i : Nat) (hI : IsClimb cy ad ns t i) (g : Sg) (m2 : Sg)  (hf : f1_beginAnew g = some m2) : Cv l yX1_beginAnew (.code yX1_beginAnew cX1_beginAnew 1 none :: tk_tb) { frames := 0, cells := 0, slots := 0, locals := 0 } D cy ad ns [.ref (ad t i 0)] (uI M t i g) (uI M t i m2) := by
  refine Cv.of (by decide) (Nat.le_of_ble_eq_true rfl) ?_
  intro p e s m below meth c ls hE hW hl
  obtain ⟨hx, hb, hr, hml, hown, hts, hlk, hK⟩ := hE
  have hA : ∀ q : Nat, s.heap.size ≤ q → Aw ad ns s.heap.size q := fun q h => Or.inr h
  have hl : lv_has ls 1 [(0, .ref (ad t i 0))] := hl
  unfold f1_beginAnew at hf
  refine lv_aload_n hx hb dX1_beginAnew_0 rfl (lv_at hl 0 rfl) ?_
  refine lv_iconst (v := 0) hx hb dX1_beginAnew_1 (by decide) ?_
  replace hf := st_some hf
  refine x_put hx hb hts hown hK hW (hI.2 0 (by decide)) uI_o (hI.1 0 _) rfl inX1 tyX1 tyX1_ok nmX1 3 (by decide) t_185 rfl rfl (Nat.le_of_ble_eq_true rfl) (hI.1 0 _) uC_leaf dX1_beginAnew_2 (fun H locs hW => ?_)
  generalize (va_up g 0 (upd (g 0) 3 (0 : Int32))) = g1 at hf hW
  refine lv_aload_n hx hb dX1_beginAnew_5 rfl (lv_at hl 0 rfl) ?_
  refine lv_iconst (v := 0) hx hb dX1_beginAnew_6 (by decide) ?_
  replace hf := st_some hf
  refine x_put hx hb hts hown hK hW (hI.2 0 (by decide)) uI_o (hI.1 0 _) rfl inX1 tyX1 tyX1_ok nmX1 4 (by decide) t_187 rfl rfl (Nat.le_of_ble_eq_true rfl) (hI.1 0 _) uC_leaf dX1_beginAnew_7 (fun H locs hW => ?_)
  generalize (va_up g1 0 (upd (g1 0) 4 (0 : Int32))) = g2 at hf hW
  refine lv_aload_n hx hb dX1_beginAnew_10 rfl (lv_at hl 0 rfl) ?_
  refine lv_iconst (v := 0) hx hb dX1_beginAnew_11 (by decide) ?_
  replace hf := st_some hf
  refine x_put hx hb hts hown hK hW (hI.2 0 (by decide)) uI_o (hI.1 0 _) rfl inX1 tyX1 tyX1_ok nmX1 5 (by decide) t_189 rfl rfl (Nat.le_of_ble_eq_true rfl) (hI.1 0 _) uC_leaf dX1_beginAnew_12 (fun H locs hW => ?_)
  generalize (va_up g2 0 (upd (g2 0) 5 (0 : Int32))) = g3 at hf hW
  exact x_vret hx hb hr hlk hK hW (congrArg (fun q => (uI M t i q)) (Option.some.inj hf)) dX1_beginAnew_15
def f1_tellStep (a1 : Int32) (g : Sg) : Option (Int32 × Sg) :=
  (st (va_up g 0 (upd (g 0) 0 a1)) (fun g1 => ((f1_beginAnew g1).bind (fun g3 => (some ((g 0 0), g3))))))
set_option maxHeartbeats 4000000 in
set_option maxRecDepth 100000 in
theorem f1_tellStep_ok (l : Launch) (D : va_G) (cy : Nat → ClassId) (ad : Nat → Nat → Nat → Nat) (ns : List (Nat × Nat × Nat)) (M : Me) (t i : Nat) (hI : IsClimb cy ad ns t i) (g : Sg) (a1 : Int32) (r : Int32) (m2 : Sg)  (hf : f1_tellStep a1 g = some (r, m2)) : Ci l yX1_tellStep (.code yX1_tellStep cX1_tellStep 3 (some .int) :: tk_tb) { frames := 1, cells := 0, slots := 0, locals := 20 } D cy ad ns [.ref (ad t i 0), .int a1] (uI M t i g) r (uI M t i m2) := by
  refine Ci.of (by decide) (Nat.le_of_ble_eq_true rfl) ?_
  intro p e s m below meth c ls hE hW hl
  obtain ⟨hx, hb, hr, hml, hown, hts, hlk, hK⟩ := hE
  have hA : ∀ q : Nat, s.heap.size ≤ q → Aw ad ns s.heap.size q := fun q h => Or.inr h
  have hl : lv_has ls 3 [(0, .ref (ad t i 0)), (1, .int a1)] := hl
  unfold f1_tellStep at hf
  refine lv_aload_n hx hb dX1_tellStep_0 rfl (lv_at hl 0 rfl) ?_
  refine x_get hx hb hts hown hK hW (hI.2 0 (by decide)) uI_o (hI.1 0 _) rfl inX1 0 (by decide) t_181 rfl dX1_tellStep_1 ?_
  refine lv_istore_n (lv' := [(2, .int (g 0 0)), (0, .ref (ad t i 0)), (1, .int a1)]) hx hb dX1_tellStep_4 rfl hl (by decide) rfl (fun ls hl => ?_)
  refine lv_aload_n hx hb dX1_tellStep_5 rfl (lv_at hl 1 rfl) ?_
  refine lv_iload_n hx hb dX1_tellStep_6 rfl (lv_at hl 2 rfl) ?_
  replace hf := st_some hf
  refine x_put hx hb hts hown hK hW (hI.2 0 (by decide)) uI_o (hI.1 0 _) rfl inX1 tyX1 tyX1_ok nmX1 0 (by decide) t_181 rfl rfl (Nat.le_of_ble_eq_true rfl) (hI.1 0 _) uC_leaf dX1_tellStep_7 (fun H locs hW => ?_)
  generalize (va_up g 0 (upd (g 0) 0 a1)) = g1 at hf hW
  refine lv_aload_n hx hb dX1_tellStep_10 rfl (lv_at hl 1 rfl) ?_
  obtain ⟨g3, hc2, hf⟩ := bd_some hf
  have hC4 := f1_beginAnew_ok l D cy ad ns M t i hI g1 g3 hc2
  refine x_vv (n := 0) (As := []) (rest := []) hx hb hml hts hown hK hW hA hC4 (hI.2 0 (by decide)) uI_o (hI.1 0 _) rfl rfl t_378 t_380 p_1 t_11 t_381 rfl (by decide +kernel) rfl rfl ⟨Nat.le_of_ble_eq_true rfl, Nat.le_of_ble_eq_true rfl⟩ hl.1 rfl (lv_room (Nat.le_of_ble_eq_true rfl)) dX1_tellStep_11 ⟨(Nat.le_of_ble_eq_true rfl), (Nat.le_of_ble_eq_true rfl)⟩ (fun H locs hW => ?_)
  refine lv_iload_n hx hb dX1_tellStep_14 rfl (lv_at hl 0 rfl) ?_
  exact x_iret hx hb hr hlk hK hW (congrArg Prod.fst (Option.some.inj hf)) (congrArg (fun q => (uI M t i (Prod.snd q))) (Option.some.inj hf)) dX1_tellStep_15
def f1_tellPeriod (a1 : Int32) (g : Sg) : Option (Int32 × Sg) :=
  (st (va_up g 0 (upd (g 0) 1 a1)) (fun g1 => ((f1_beginAnew g1).bind (fun g3 => (some ((g 0 1), g3))))))
set_option maxHeartbeats 4000000 in
set_option maxRecDepth 100000 in
theorem f1_tellPeriod_ok (l : Launch) (D : va_G) (cy : Nat → ClassId) (ad : Nat → Nat → Nat → Nat) (ns : List (Nat × Nat × Nat)) (M : Me) (t i : Nat) (hI : IsClimb cy ad ns t i) (g : Sg) (a1 : Int32) (r : Int32) (m2 : Sg)  (hf : f1_tellPeriod a1 g = some (r, m2)) : Ci l yX1_tellPeriod (.code yX1_tellPeriod cX1_tellPeriod 3 (some .int) :: tk_tb) { frames := 1, cells := 0, slots := 0, locals := 20 } D cy ad ns [.ref (ad t i 0), .int a1] (uI M t i g) r (uI M t i m2) := by
  refine Ci.of (by decide) (Nat.le_of_ble_eq_true rfl) ?_
  intro p e s m below meth c ls hE hW hl
  obtain ⟨hx, hb, hr, hml, hown, hts, hlk, hK⟩ := hE
  have hA : ∀ q : Nat, s.heap.size ≤ q → Aw ad ns s.heap.size q := fun q h => Or.inr h
  have hl : lv_has ls 3 [(0, .ref (ad t i 0)), (1, .int a1)] := hl
  unfold f1_tellPeriod at hf
  refine lv_aload_n hx hb dX1_tellPeriod_0 rfl (lv_at hl 0 rfl) ?_
  refine x_get hx hb hts hown hK hW (hI.2 0 (by decide)) uI_o (hI.1 0 _) rfl inX1 1 (by decide) t_182 rfl dX1_tellPeriod_1 ?_
  refine lv_istore_n (lv' := [(2, .int (g 0 1)), (0, .ref (ad t i 0)), (1, .int a1)]) hx hb dX1_tellPeriod_4 rfl hl (by decide) rfl (fun ls hl => ?_)
  refine lv_aload_n hx hb dX1_tellPeriod_5 rfl (lv_at hl 1 rfl) ?_
  refine lv_iload_n hx hb dX1_tellPeriod_6 rfl (lv_at hl 2 rfl) ?_
  replace hf := st_some hf
  refine x_put hx hb hts hown hK hW (hI.2 0 (by decide)) uI_o (hI.1 0 _) rfl inX1 tyX1 tyX1_ok nmX1 1 (by decide) t_182 rfl rfl (Nat.le_of_ble_eq_true rfl) (hI.1 0 _) uC_leaf dX1_tellPeriod_7 (fun H locs hW => ?_)
  generalize (va_up g 0 (upd (g 0) 1 a1)) = g1 at hf hW
  refine lv_aload_n hx hb dX1_tellPeriod_10 rfl (lv_at hl 1 rfl) ?_
  obtain ⟨g3, hc2, hf⟩ := bd_some hf
  have hC4 := f1_beginAnew_ok l D cy ad ns M t i hI g1 g3 hc2
  refine x_vv (n := 0) (As := []) (rest := []) hx hb hml hts hown hK hW hA hC4 (hI.2 0 (by decide)) uI_o (hI.1 0 _) rfl rfl t_378 t_380 p_1 t_11 t_381 rfl (by decide +kernel) rfl rfl ⟨Nat.le_of_ble_eq_true rfl, Nat.le_of_ble_eq_true rfl⟩ hl.1 rfl (lv_room (Nat.le_of_ble_eq_true rfl)) dX1_tellPeriod_11 ⟨(Nat.le_of_ble_eq_true rfl), (Nat.le_of_ble_eq_true rfl)⟩ (fun H locs hW => ?_)
  refine lv_iload_n hx hb dX1_tellPeriod_14 rfl (lv_at hl 0 rfl) ?_
  exact x_iret hx hb hr hlk hK hW (congrArg Prod.fst (Option.some.inj hf)) (congrArg (fun q => (uI M t i (Prod.snd q))) (Option.some.inj hf)) dX1_tellPeriod_15
def f1_growthAfter_j66 (g : Sg) : Option (Int32 × Sg) :=
  (st (va_up g 0 (upd (g 0) 5 (g 0 3))) (fun g8 => (st (va_up g8 0 (upd (g8 0) 3 (0 : Int32))) (fun g9 => (st (va_up g9 0 (upd (g9 0) 4 (0 : Int32))) (fun g10 => (some (((g10 0 2) * (g10 0 0)), g10))))))))
def f1_growthAfter_j33 (g : Sg) : Option (Int32 × Sg) :=
  (if (g 0 1) ≤ (g 0 4) then (if (g 0 5) ≤ (g 0 3) then (f1_growthAfter_j66 g) else (st (va_up g 0 (upd (g 0) 2 (-(g 0 2)))) (fun g7 => (f1_growthAfter_j66 g7)))) else (some ((0 : Int32), g)))
def f1_growthAfter (a1 : Int32) (g : Sg) : Option (Int32 × Sg) :=
  (if (g 0 0) = 0 then (some ((0 : Int32), g)) else (st (va_up g 0 (upd (g 0) 4 ((g 0 4) + (1 : Int32)))) (fun g2 => (if a1 = 0 then (f1_growthAfter_j33 g2) else (st (va_up g2 0 (upd (g2 0) 3 ((g2 0 3) + (1 : Int32)))) (fun g4 => (f1_growthAfter_j33 g4)))))))
set_option maxHeartbeats 4000000 in
set_option maxRecDepth 100000 in
theorem f1_growthAfter_ok (l : Launch) (D : va_G) (cy : Nat → ClassId) (ad : Nat → Nat → Nat → Nat) (ns : List (Nat × Nat × Nat)) (M : Me) (t i : Nat) (hI : IsClimb cy ad ns t i) (g : Sg) (a1 : Int32) (r : Int32) (m2 : Sg)  (hf : f1_growthAfter a1 g = some (r, m2)) : Ci l yX1_growthAfter (.code yX1_growthAfter cX1_growthAfter 2 (some .int) :: tk_tb) { frames := 0, cells := 0, slots := 0, locals := 0 } D cy ad ns [.ref (ad t i 0), .int a1] (uI M t i g) r (uI M t i m2) := by
  refine Ci.of (by decide) (Nat.le_of_ble_eq_true rfl) ?_
  intro p e s m below meth c ls hE hW hl
  obtain ⟨hx, hb, hr, hml, hown, hts, hlk, hK⟩ := hE
  have hA : ∀ q : Nat, s.heap.size ≤ q → Aw ad ns s.heap.size q := fun q h => Or.inr h
  have hl : lv_has ls 2 [(0, .ref (ad t i 0)), (1, .int a1)] := hl
  unfold f1_growthAfter at hf
  have J66 : ∀ (g : Sg) (H : Heap) (locs : List Loc) (ls : Array Slot), f1_growthAfter_j66 g = some (r, m2) → Wl D cy ad ns (Aw ad ns s.heap.size) s.heap (uI M t i g) H locs → lv_has ls 2 [(0, .ref (ad t i 0))] → W p l e { frames := 0, cells := 0, slots := 0, locals := 0 } s m ([.ref (ad t i 0), .int a1] : List Value).toArray below meth c H locs 0 0 (QI below D cy ad ns [.ref (ad t i 0), .int a1] s r (uI M t i m2)) (F0 m 66 ls []) := by
    intro g H locs ls hf hW hl
    unfold f1_growthAfter_j66 at hf
    refine lv_aload_n hx hb dX1_growthAfter_66 rfl (lv_at hl 0 rfl) ?_
    refine lv_aload_n hx hb dX1_growthAfter_67 rfl (lv_at hl 0 rfl) ?_
    refine x_get hx hb hts hown hK hW (hI.2 0 (by decide)) uI_o (hI.1 0 _) rfl inX1 3 (by decide) t_185 rfl dX1_growthAfter_68 ?_
    replace hf := st_some hf
    refine x_put hx hb hts hown hK hW (hI.2 0 (by decide)) uI_o (hI.1 0 _) rfl inX1 tyX1 tyX1_ok nmX1 5 (by decide) t_189 rfl rfl (Nat.le_of_ble_eq_true rfl) (hI.1 0 _) uC_leaf dX1_growthAfter_71 (fun H locs hW => ?_)
    generalize (va_up g 0 (upd (g 0) 5 (g 0 3))) = g8 at hf hW
    refine lv_aload_n hx hb dX1_growthAfter_74 rfl (lv_at hl 0 rfl) ?_
    refine lv_iconst (v := 0) hx hb dX1_growthAfter_75 (by decide) ?_
    replace hf := st_some hf
    refine x_put hx hb hts hown hK hW (hI.2 0 (by decide)) uI_o (hI.1 0 _) rfl inX1 tyX1 tyX1_ok nmX1 3 (by decide) t_185 rfl rfl (Nat.le_of_ble_eq_true rfl) (hI.1 0 _) uC_leaf dX1_growthAfter_76 (fun H locs hW => ?_)
    generalize (va_up g8 0 (upd (g8 0) 3 (0 : Int32))) = g9 at hf hW
    refine lv_aload_n hx hb dX1_growthAfter_79 rfl (lv_at hl 0 rfl) ?_
    refine lv_iconst (v := 0) hx hb dX1_growthAfter_80 (by decide) ?_
    replace hf := st_some hf
    refine x_put hx hb hts hown hK hW (hI.2 0 (by decide)) uI_o (hI.1 0 _) rfl inX1 tyX1 tyX1_ok nmX1 4 (by decide) t_187 rfl rfl (Nat.le_of_ble_eq_true rfl) (hI.1 0 _) uC_leaf dX1_growthAfter_81 (fun H locs hW => ?_)
    generalize (va_up g9 0 (upd (g9 0) 4 (0 : Int32))) = g10 at hf hW
    refine lv_aload_n hx hb dX1_growthAfter_84 rfl (lv_at hl 0 rfl) ?_
    refine x_get hx hb hts hown hK hW (hI.2 0 (by decide)) uI_o (hI.1 0 _) rfl inX1 2 (by decide) t_183 rfl dX1_growthAfter_85 ?_
    refine lv_aload_n hx hb dX1_growthAfter_88 rfl (lv_at hl 0 rfl) ?_
    refine x_get hx hb hts hown hK hW (hI.2 0 (by decide)) uI_o (hI.1 0 _) rfl inX1 0 (by decide) t_181 rfl dX1_growthAfter_89 ?_
    refine lv_imul hx hb dX1_growthAfter_92 ?_
    exact x_iret hx hb hr hlk hK hW (congrArg Prod.fst (Option.some.inj hf)) (congrArg (fun q => (uI M t i (Prod.snd q))) (Option.some.inj hf)) dX1_growthAfter_93
  have J33 : ∀ (g : Sg) (H : Heap) (locs : List Loc) (ls : Array Slot), f1_growthAfter_j33 g = some (r, m2) → Wl D cy ad ns (Aw ad ns s.heap.size) s.heap (uI M t i g) H locs → lv_has ls 2 [(0, .ref (ad t i 0))] → W p l e { frames := 0, cells := 0, slots := 0, locals := 0 } s m ([.ref (ad t i 0), .int a1] : List Value).toArray below meth c H locs 0 0 (QI below D cy ad ns [.ref (ad t i 0), .int a1] s r (uI M t i m2)) (F0 m 33 ls []) := by
    intro g H locs ls hf hW hl
    unfold f1_growthAfter_j33 at hf
    refine lv_aload_n hx hb dX1_growthAfter_33 rfl (lv_at hl 0 rfl) ?_
    refine x_get hx hb hts hown hK hW (hI.2 0 (by decide)) uI_o (hI.1 0 _) rfl inX1 4 (by decide) t_187 rfl dX1_growthAfter_34 ?_
    refine lv_aload_n hx hb dX1_growthAfter_37 rfl (lv_at hl 0 rfl) ?_
    refine x_get hx hb hts hown hK hW (hI.2 0 (by decide)) uI_o (hI.1 0 _) rfl inX1 1 (by decide) t_182 rfl dX1_growthAfter_38 ?_
    refine lv_icmp_ge (tgt := 46) hx hb dX1_growthAfter_41 (by decide) (fun c5 => ?_) (fun c5 => ?_)
    · replace hf := (if_pos c5).symm.trans hf
      refine lv_aload_n hx hb dX1_growthAfter_46 rfl (lv_at hl 0 rfl) ?_
      refine x_get hx hb hts hown hK hW (hI.2 0 (by decide)) uI_o (hI.1 0 _) rfl inX1 3 (by decide) t_185 rfl dX1_growthAfter_47 ?_
      refine lv_aload_n hx hb dX1_growthAfter_50 rfl (lv_at hl 0 rfl) ?_
      refine x_get hx hb hts hown hK hW (hI.2 0 (by decide)) uI_o (hI.1 0 _) rfl inX1 5 (by decide) t_189 rfl dX1_growthAfter_51 ?_
      refine lv_icmp_ge (tgt := 66) hx hb dX1_growthAfter_54 (by decide) (fun c6 => ?_) (fun c6 => ?_)
      · replace hf := (if_pos c6).symm.trans hf
        exact J66 _ _ _ _ hf hW (lv_sub hl [0] rfl)
      · replace hf := (if_neg c6).symm.trans hf
        refine lv_aload_n hx hb dX1_growthAfter_57 rfl (lv_at hl 0 rfl) ?_
        refine lv_aload_n hx hb dX1_growthAfter_58 rfl (lv_at hl 0 rfl) ?_
        refine x_get hx hb hts hown hK hW (hI.2 0 (by decide)) uI_o (hI.1 0 _) rfl inX1 2 (by decide) t_183 rfl dX1_growthAfter_59 ?_
        refine lv_ineg hx hb dX1_growthAfter_62 ?_
        replace hf := st_some hf
        refine x_put hx hb hts hown hK hW (hI.2 0 (by decide)) uI_o (hI.1 0 _) rfl inX1 tyX1 tyX1_ok nmX1 2 (by decide) t_183 rfl rfl (Nat.le_of_ble_eq_true rfl) (hI.1 0 _) uC_leaf dX1_growthAfter_63 (fun H locs hW => ?_)
        generalize (va_up g 0 (upd (g 0) 2 (-(g 0 2)))) = g7 at hf hW
        exact J66 _ _ _ _ hf hW (lv_sub hl [0] rfl)
    · replace hf := (if_neg c5).symm.trans hf
      refine lv_iconst (v := 0) hx hb dX1_growthAfter_44 (by decide) ?_
      exact x_iret hx hb hr hlk hK hW (congrArg Prod.fst (Option.some.inj hf)) (congrArg (fun q => (uI M t i (Prod.snd q))) (Option.some.inj hf)) dX1_growthAfter_45
  refine lv_aload_n hx hb dX1_growthAfter_0 rfl (lv_at hl 0 rfl) ?_
  refine x_get hx hb hts hown hK hW (hI.2 0 (by decide)) uI_o (hI.1 0 _) rfl inX1 0 (by decide) t_181 rfl dX1_growthAfter_1 ?_
  refine lv_if_ne (tgt := 9) hx hb dX1_growthAfter_4 (by decide) (fun c1 => ?_) (fun c1 => ?_)
  · replace hf := (if_neg c1).symm.trans hf
    refine lv_aload_n hx hb dX1_growthAfter_9 rfl (lv_at hl 0 rfl) ?_
    refine lv_dup hx hb dX1_growthAfter_10 rfl ?_
    refine x_get hx hb hts hown hK hW (hI.2 0 (by decide)) uI_o (hI.1 0 _) rfl inX1 4 (by decide) t_187 rfl dX1_growthAfter_11 ?_
    refine lv_iconst (v := 1) hx hb dX1_growthAfter_14 (by decide) ?_
    refine lv_iadd hx hb dX1_growthAfter_15 ?_
    replace hf := st_some hf
    refine x_put hx hb hts hown hK hW (hI.2 0 (by decide)) uI_o (hI.1 0 _) rfl inX1 tyX1 tyX1_ok nmX1 4 (by decide) t_187 rfl rfl (Nat.le_of_ble_eq_true rfl) (hI.1 0 _) uC_leaf dX1_growthAfter_16 (fun H locs hW => ?_)
    generalize (va_up g 0 (upd (g 0) 4 ((g 0 4) + (1 : Int32)))) = g2 at hf hW
    refine lv_iload_n hx hb dX1_growthAfter_19 rfl (lv_at hl 1 rfl) ?_
    refine lv_if_eq (tgt := 33) hx hb dX1_growthAfter_20 (by decide) (fun c3 => ?_) (fun c3 => ?_)
    · replace hf := (if_pos c3).symm.trans hf
      exact J33 _ _ _ _ hf hW (lv_sub hl [0] rfl)
    · replace hf := (if_neg c3).symm.trans hf
      refine lv_aload_n hx hb dX1_growthAfter_23 rfl (lv_at hl 0 rfl) ?_
      refine lv_dup hx hb dX1_growthAfter_24 rfl ?_
      refine x_get hx hb hts hown hK hW (hI.2 0 (by decide)) uI_o (hI.1 0 _) rfl inX1 3 (by decide) t_185 rfl dX1_growthAfter_25 ?_
      refine lv_iconst (v := 1) hx hb dX1_growthAfter_28 (by decide) ?_
      refine lv_iadd hx hb dX1_growthAfter_29 ?_
      replace hf := st_some hf
      refine x_put hx hb hts hown hK hW (hI.2 0 (by decide)) uI_o (hI.1 0 _) rfl inX1 tyX1 tyX1_ok nmX1 3 (by decide) t_185 rfl rfl (Nat.le_of_ble_eq_true rfl) (hI.1 0 _) uC_leaf dX1_growthAfter_30 (fun H locs hW => ?_)
      generalize (va_up g2 0 (upd (g2 0) 3 ((g2 0 3) + (1 : Int32)))) = g4 at hf hW
      exact J33 _ _ _ _ hf hW (lv_sub hl [0] rfl)
  · replace hf := (if_pos c1).symm.trans hf
    refine lv_iconst (v := 0) hx hb dX1_growthAfter_7 (by decide) ?_
    exact x_iret hx hb hr hlk hK hW (congrArg Prod.fst (Option.some.inj hf)) (congrArg (fun q => (uI M t i (Prod.snd q))) (Option.some.inj hf)) dX1_growthAfter_8
def f1_copyFrom (h : Sg) (g : Sg) : Option Sg :=
  (st (va_up g 0 (upd (g 0) 0 (h 0 0))) (fun g1 => (st (va_up g1 0 (upd (g1 0) 1 (h 0 1))) (fun g2 => (st (va_up g2 0 (upd (g2 0) 2 (h 0 2))) (fun g3 => (st (va_up g3 0 (upd (g3 0) 3 (h 0 3))) (fun g4 => (st (va_up g4 0 (upd (g4 0) 4 (h 0 4))) (fun g5 => (st (va_up g5 0 (upd (g5 0) 5 (h 0 5))) (fun g6 => (some g6)))))))))))))
set_option maxHeartbeats 4000000 in
set_option maxRecDepth 100000 in
theorem f1_copyFrom_ok (l : Launch) (D : va_G) (cy : Nat → ClassId) (ad : Nat → Nat → Nat → Nat) (ns : List (Nat × Nat × Nat)) (M : Me) (t i : Nat) (hI : IsClimb cy ad ns t i) (u : Nat) (hne : u ≠ t) (hI2 : IsClimb cy ad ns u i) (h : Sg) (hO : M u i = h) (g : Sg) (m2 : Sg)  (hf : f1_copyFrom h g = some m2) : Cv l yX1_copyFrom (.code yX1_copyFrom cX1_copyFrom 2 none :: tk_tb) { frames := 0, cells := 0, slots := 0, locals := 0 } D cy ad ns [.ref (ad t i 0), .ref (ad u i 0)] (uI M t i g) (uI M t i m2) := by
  refine Cv.of (by decide) (Nat.le_of_ble_eq_true rfl) ?_
  intro p e s m below meth c ls hE hW hl
  obtain ⟨hx, hb, hr, hml, hown, hts, hlk, hK⟩ := hE
  have hA : ∀ q : Nat, s.heap.size ≤ q → Aw ad ns s.heap.size q := fun q h => Or.inr h
  have hl : lv_has ls 2 [(0, .ref (ad t i 0)), (1, .ref (ad u i 0))] := hl
  unfold f1_copyFrom at hf
  refine lv_aload_n hx hb dX1_copyFrom_0 rfl (lv_at hl 0 rfl) ?_
  refine lv_aload_n hx hb dX1_copyFrom_1 rfl (lv_at hl 1 rfl) ?_
  refine x_get hx hb hts hown hK hW (hI2.2 0 (by decide)) (uI_oth hne hO) (hI2.1 0 _) rfl inX1 0 (by decide) t_181 rfl dX1_copyFrom_2 ?_
  replace hf := st_some hf
  refine x_put hx hb hts hown hK hW (hI.2 0 (by decide)) uI_o (hI.1 0 _) rfl inX1 tyX1 tyX1_ok nmX1 0 (by decide) t_181 rfl rfl (Nat.le_of_ble_eq_true rfl) (hI.1 0 _) uC_leaf dX1_copyFrom_5 (fun H locs hW => ?_)
  generalize (va_up g 0 (upd (g 0) 0 (h 0 0))) = g1 at hf hW
  refine lv_aload_n hx hb dX1_copyFrom_8 rfl (lv_at hl 0 rfl) ?_
  refine lv_aload_n hx hb dX1_copyFrom_9 rfl (lv_at hl 1 rfl) ?_
  refine x_get hx hb hts hown hK hW (hI2.2 0 (by decide)) (uI_oth hne hO) (hI2.1 0 _) rfl inX1 1 (by decide) t_182 rfl dX1_copyFrom_10 ?_
  replace hf := st_some hf
  refine x_put hx hb hts hown hK hW (hI.2 0 (by decide)) uI_o (hI.1 0 _) rfl inX1 tyX1 tyX1_ok nmX1 1 (by decide) t_182 rfl rfl (Nat.le_of_ble_eq_true rfl) (hI.1 0 _) uC_leaf dX1_copyFrom_13 (fun H locs hW => ?_)
  generalize (va_up g1 0 (upd (g1 0) 1 (h 0 1))) = g2 at hf hW
  refine lv_aload_n hx hb dX1_copyFrom_16 rfl (lv_at hl 0 rfl) ?_
  refine lv_aload_n hx hb dX1_copyFrom_17 rfl (lv_at hl 1 rfl) ?_
  refine x_get hx hb hts hown hK hW (hI2.2 0 (by decide)) (uI_oth hne hO) (hI2.1 0 _) rfl inX1 2 (by decide) t_183 rfl dX1_copyFrom_18 ?_
  replace hf := st_some hf
  refine x_put hx hb hts hown hK hW (hI.2 0 (by decide)) uI_o (hI.1 0 _) rfl inX1 tyX1 tyX1_ok nmX1 2 (by decide) t_183 rfl rfl (Nat.le_of_ble_eq_true rfl) (hI.1 0 _) uC_leaf dX1_copyFrom_21 (fun H locs hW => ?_)
  generalize (va_up g2 0 (upd (g2 0) 2 (h 0 2))) = g3 at hf hW
  refine lv_aload_n hx hb dX1_copyFrom_24 rfl (lv_at hl 0 rfl) ?_
  refine lv_aload_n hx hb dX1_copyFrom_25 rfl (lv_at hl 1 rfl) ?_
  refine x_get hx hb hts hown hK hW (hI2.2 0 (by decide)) (uI_oth hne hO) (hI2.1 0 _) rfl inX1 3 (by decide) t_185 rfl dX1_copyFrom_26 ?_
  replace hf := st_some hf
  refine x_put hx hb hts hown hK hW (hI.2 0 (by decide)) uI_o (hI.1 0 _) rfl inX1 tyX1 tyX1_ok nmX1 3 (by decide) t_185 rfl rfl (Nat.le_of_ble_eq_true rfl) (hI.1 0 _) uC_leaf dX1_copyFrom_29 (fun H locs hW => ?_)
  generalize (va_up g3 0 (upd (g3 0) 3 (h 0 3))) = g4 at hf hW
  refine lv_aload_n hx hb dX1_copyFrom_32 rfl (lv_at hl 0 rfl) ?_
  refine lv_aload_n hx hb dX1_copyFrom_33 rfl (lv_at hl 1 rfl) ?_
  refine x_get hx hb hts hown hK hW (hI2.2 0 (by decide)) (uI_oth hne hO) (hI2.1 0 _) rfl inX1 4 (by decide) t_187 rfl dX1_copyFrom_34 ?_
  replace hf := st_some hf
  refine x_put hx hb hts hown hK hW (hI.2 0 (by decide)) uI_o (hI.1 0 _) rfl inX1 tyX1 tyX1_ok nmX1 4 (by decide) t_187 rfl rfl (Nat.le_of_ble_eq_true rfl) (hI.1 0 _) uC_leaf dX1_copyFrom_37 (fun H locs hW => ?_)
  generalize (va_up g4 0 (upd (g4 0) 4 (h 0 4))) = g5 at hf hW
  refine lv_aload_n hx hb dX1_copyFrom_40 rfl (lv_at hl 0 rfl) ?_
  refine lv_aload_n hx hb dX1_copyFrom_41 rfl (lv_at hl 1 rfl) ?_
  refine x_get hx hb hts hown hK hW (hI2.2 0 (by decide)) (uI_oth hne hO) (hI2.1 0 _) rfl inX1 5 (by decide) t_189 rfl dX1_copyFrom_42 ?_
  replace hf := st_some hf
  refine x_put hx hb hts hown hK hW (hI.2 0 (by decide)) uI_o (hI.1 0 _) rfl inX1 tyX1 tyX1_ok nmX1 5 (by decide) t_189 rfl rfl (Nat.le_of_ble_eq_true rfl) (hI.1 0 _) uC_leaf dX1_copyFrom_45 (fun H locs hW => ?_)
  generalize (va_up g5 0 (upd (g5 0) 5 (h 0 5))) = g6 at hf hW
  exact x_vret hx hb hr hlk hK hW (congrArg (fun q => (uI M t i q)) (Option.some.inj hf)) dX1_copyFrom_48
