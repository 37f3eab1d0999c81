def f11_units_b4 (g : Sg) (rec4 : Int32 → Int32 → Int32 → Option Int32) (w1 : Int32) (w2 : Int32) (w3 : Int32) : Option Int32 :=
  ((f11_length g w1).bind (fun r2 => (if r2 ≤ w3 then (some w2) else ((f11_keyAt g w1 w3).bind (fun r6 => (rd 1805 (g 1) ((990 : Int32) + r6) (fun v9 => (rec4 w1 (w2 + v9) (w3 + (1 : Int32))))))))))
def f11_units_l4 (g : Sg) : Nat → Int32 → Int32 → Int32 → Option Int32
  | 0 => fun _ _ _ => none
  | k + 1 => f11_units_b4 g (f11_units_l4 g k)
def f11_units (g : Sg) (a1 : Int32) : Option Int32 :=
  (f11_units_l4 g NF a1 (0 : Int32) (0 : Int32))
set_option maxHeartbeats 4000000 in
set_option maxRecDepth 100000 in
theorem f11_units_ok (l : Launch) (D : va_G) (cy : Nat → ClassId) (ad : Nat → Nat → Nat → Nat) (ns : List (Nat × Nat × Nat)) (M : Me) (t i : Nat) (hI : IsModel cy ad ns t i) (g : Sg) (a1 : Int32) (r : Int32)  (hf : f11_units g a1 = some r) : Ci l yX11_units (.code yX11_units cX11_units 4 (some .int) :: tk_tb) { frames := 1, cells := 0, slots := 0, locals := 22 } D cy ad ns [.ref (ad t i 0), .int a1] (uI M t i g) r (uI M t i g) := by
  refine Ci.of (by decide) (Nat.le_of_ble_eq_true rfl) ?_
  intro p e s m below meth c ls hE hW hl
  obtain ⟨hx, hb, hr, hml, hown, hts, hlk, hK⟩ := hE
  have hA : ∀ q : Nat, s.heap.size ≤ q → Aw ad ns s.heap.size q := fun q h => Or.inr h
  have hl : lv_has ls 4 [(0, .ref (ad t i 0)), (1, .int a1)] := hl
  unfold f11_units at hf
  refine lv_iconst (v := 0) hx hb dX11_units_0 (by decide) ?_
  refine lv_istore_n (lv' := [(2, .int (0 : Int32)), (0, .ref (ad t i 0)), (1, .int a1)]) hx hb dX11_units_1 rfl hl (by decide) rfl (fun ls hl => ?_)
  refine lv_iconst (v := 0) hx hb dX11_units_2 (by decide) ?_
  refine lv_istore_n (lv' := [(3, .int (0 : Int32)), (2, .int (0 : Int32)), (0, .ref (ad t i 0)), (1, .int a1)]) hx hb dX11_units_3 rfl hl (by decide) rfl (fun ls hl => ?_)
  have L4 : ∀ (k : Nat) (w1 : Int32) (w2 : Int32) (w3 : Int32) (H : Heap) (locs : List Loc) (ls : Array Slot), f11_units_l4 g k w1 w2 w3 = some r → Wl D cy ad ns (Aw ad ns s.heap.size) s.heap (uI M t i g) H locs → lv_has ls 4 [(0, .ref (ad t i 0)), (1, .int w1), (2, .int w2), (3, .int w3)] → W p l e { frames := 1, cells := 0, slots := 0, locals := 22 } s m ([.ref (ad t i 0), .int a1] : List Value).toArray below meth c H locs 0 0 (QI below D cy ad ns [.ref (ad t i 0), .int a1] s r (uI M t i g)) (F0 m 4 ls []) := by
    intro k
    induction k with
    | zero => intro w1 w2 w3 H locs ls hf; exact absurd hf (by simp [f11_units_l4])
    | succ k4 ih4 =>
      intro w1 w2 w3 H locs ls hf hW hl
      have hf : f11_units_b4 g (f11_units_l4 g k4) w1 w2 w3 = some r := hf
      unfold f11_units_b4 at hf
      refine lv_iload_n hx hb dX11_units_4 rfl (lv_at hl 3 rfl) ?_
      refine lv_aload_n hx hb dX11_units_5 rfl (lv_at hl 0 rfl) ?_
      refine lv_iload_n hx hb dX11_units_6 rfl (lv_at hl 1 rfl) ?_
      obtain ⟨r2, hc1, hf⟩ := bd_some hf
      have hC3 := f11_length_ok l D cy ad ns M t i hI g w1 r2 hc1
      refine x_vi (n := 1) (As := [.int w1]) (rest := [.int w3]) hx hb hml hts hown hK hW hA hC3 (hI.2 0 (by decide)) uI_o (hI.1 0 _) rfl rfl t_827 t_829 p_28 t_14 t_830 rfl (by decide +kernel) rfl rfl ⟨Nat.le_of_ble_eq_true rfl, Nat.le_of_ble_eq_true rfl⟩ hl.1 rfl (lv_room (Nat.le_of_ble_eq_true rfl)) dX11_units_7 ⟨(Nat.le_of_ble_eq_true rfl), (Nat.le_of_ble_eq_true rfl)⟩ (fun H locs hW => ?_)
      refine lv_icmp_ge (tgt := 37) hx hb dX11_units_10 (by decide) (fun c4 => ?_) (fun c4 => ?_)
      · replace hf := (if_pos c4).symm.trans hf
        refine lv_iload_n hx hb dX11_units_37 rfl (lv_at hl 2 rfl) ?_
        exact x_iret hx hb hr hlk hK hW (Option.some.inj hf) rfl dX11_units_38
      · replace hf := (if_neg c4).symm.trans hf
        refine lv_iload_n hx hb dX11_units_13 rfl (lv_at hl 2 rfl) ?_
        refine lv_aload_n hx hb dX11_units_14 rfl (lv_at hl 0 rfl) ?_
        refine x_get hx hb hts hown hK hW (hI.2 0 (by decide)) uI_o (hI.1 0 _) rfl inX11 2 (by decide) t_742 rfl dX11_units_15 ?_
        refine lv_sipush (v := 990) hx hb dX11_units_18 (by decide) ?_
        refine lv_aload_n hx hb dX11_units_21 rfl (lv_at hl 0 rfl) ?_
        refine lv_iload_n hx hb dX11_units_22 rfl (lv_at hl 1 rfl) ?_
        refine lv_iload_n hx hb dX11_units_23 rfl (lv_at hl 3 rfl) ?_
        obtain ⟨r6, hc5, hf⟩ := bd_some hf
        have hC7 := f11_keyAt_ok l D cy ad ns M t i hI g w1 w3 r6 hc5
        refine x_vi (n := 2) (As := [.int w1, .int w3]) (rest := [.int (990 : Int32), .ref (ad t i 1), .int w2]) hx hb hml hts hown hK hW hA hC7 (hI.2 0 (by decide)) uI_o (hI.1 0 _) rfl rfl t_831 t_833 p_29 t_14 t_834 rfl (by decide +kernel) rfl rfl ⟨Nat.le_of_ble_eq_true rfl, Nat.le_of_ble_eq_true rfl⟩ hl.1 rfl (lv_room (Nat.le_of_ble_eq_true rfl)) dX11_units_24 ⟨(Nat.le_of_ble_eq_true rfl), (Nat.le_of_ble_eq_true rfl)⟩ (fun H locs hW => ?_)
        refine lv_iadd hx hb dX11_units_27 ?_
        obtain ⟨hi8, hf⟩ := rd_some hf
        refine x_iald hx hb hK hW (hI.2 1 (by decide)) uI_o (hI.1 1 _) hi8 dX11_units_28 ?_
        generalize g 1 (((990 : Int32) + r6)).toNatClampNeg = v9 at hf ⊢
        refine lv_iadd hx hb dX11_units_29 ?_
        refine lv_istore_n (lv' := [(2, .int (w2 + v9)), (0, .ref (ad t i 0)), (1, .int w1), (3, .int w3)]) hx hb dX11_units_30 rfl hl (by decide) rfl (fun ls hl => ?_)
        refine lv_iinc (v := (w3 + (1 : Int32))) (lv' := [(3, .int (w3 + (1 : Int32))), (2, .int (w2 + v9)), (0, .ref (ad t i 0)), (1, .int w1)]) hx hb dX11_units_31 hl (k := 3) rfl (by first | rfl | decide) (by decide) rfl (fun ls hl => ?_)
        refine lv_goto (tgt := 4) hx hb dX11_units_34 (by decide) ?_
        exact ih4 _ _ _ _ _ _ hf hW (lv_sub hl [2, 3, 1, 0] rfl)
  exact L4 NF _ _ _ _ _ _ hf hW (lv_sub hl [2, 3, 1, 0] rfl)
def f11_inMain (g : Sg) : Option Int32 :=
  ((f11_units g (1 : Int32)).bind (fun r2 => ((f11_units g (2 : Int32)).bind (fun r5 => (some (r2 + r5))))))
set_option maxHeartbeats 4000000 in
set_option maxRecDepth 100000 in
theorem f11_inMain_ok (l : Launch) (D : va_G) (cy : Nat → ClassId) (ad : Nat → Nat → Nat → Nat) (ns : List (Nat × Nat × Nat)) (M : Me) (t i : Nat) (hI : IsModel cy ad ns t i) (g : Sg) (r : Int32)  (hf : f11_inMain g = some r) : Ci l yX11_inMain (.code yX11_inMain cX11_inMain 1 (some .int) :: tk_tb) { frames := 2, cells := 0, slots := 0, locals := 45 } D cy ad ns [.ref (ad t i 0)] (uI M t i g) r (uI M t i g) := by
  refine Ci.of (by decide) (Nat.le_of_ble_eq_true rfl) ?_
  intro p e s m below meth c ls hE hW hl
  obtain ⟨hx, hb, hr, hml, hown, hts, hlk, hK⟩ := hE
  have hA : ∀ q : Nat, s.heap.size ≤ q → Aw ad ns s.heap.size q := fun q h => Or.inr h
  have hl : lv_has ls 1 [(0, .ref (ad t i 0))] := hl
  unfold f11_inMain at hf
  refine lv_aload_n hx hb dX11_inMain_0 rfl (lv_at hl 0 rfl) ?_
  refine lv_iconst (v := 1) hx hb dX11_inMain_1 (by decide) ?_
  obtain ⟨r2, hc1, hf⟩ := bd_some hf
  have hC3 := f11_units_ok l D cy ad ns M t i hI g (1 : Int32) r2 hc1
  refine x_vi (n := 1) (As := [.int (1 : Int32)]) (rest := []) hx hb hml hts hown hK hW hA hC3 (hI.2 0 (by decide)) uI_o (hI.1 0 _) rfl rfl t_871 t_873 p_38 t_14 t_874 rfl (by decide +kernel) rfl rfl ⟨Nat.le_of_ble_eq_true rfl, Nat.le_of_ble_eq_true rfl⟩ hl.1 rfl (lv_room (Nat.le_of_ble_eq_true rfl)) dX11_inMain_2 ⟨(Nat.le_of_ble_eq_true rfl), (Nat.le_of_ble_eq_true rfl)⟩ (fun H locs hW => ?_)
  refine lv_aload_n hx hb dX11_inMain_5 rfl (lv_at hl 0 rfl) ?_
  refine lv_iconst (v := 2) hx hb dX11_inMain_6 (by decide) ?_
  obtain ⟨r5, hc4, hf⟩ := bd_some hf
  have hC6 := f11_units_ok l D cy ad ns M t i hI g (2 : Int32) r5 hc4
  refine x_vi (n := 1) (As := [.int (2 : Int32)]) (rest := [.int r2]) hx hb hml hts hown hK hW hA hC6 (hI.2 0 (by decide)) uI_o (hI.1 0 _) rfl rfl t_871 t_873 p_38 t_14 t_874 rfl (by decide +kernel) rfl rfl ⟨Nat.le_of_ble_eq_true rfl, Nat.le_of_ble_eq_true rfl⟩ hl.1 rfl (lv_room (Nat.le_of_ble_eq_true rfl)) dX11_inMain_7 ⟨(Nat.le_of_ble_eq_true rfl), (Nat.le_of_ble_eq_true rfl)⟩ (fun H locs hW => ?_)
  refine lv_iadd hx hb dX11_inMain_10 ?_
  exact x_iret hx hb hr hlk hK hW (Option.some.inj hf) rfl dX11_inMain_11
def f11_append (a1 : Int32) (a2 : Int32) (g : Sg) : Option Sg :=
  ((f11_length g a1).bind (fun r2 => (wr 1805 (((1090 : Int32) + ((100 : Int32) * a1)) + r2) (va_up g 1 (upd (g 1) ((((1090 : Int32) + ((100 : Int32) * a1)) + r2)).toNatClampNeg a2)) (fun g5 => (rd 1805 (g5 1) ((1390 : Int32) + a1) (fun v7 => (wr 1805 ((1390 : Int32) + a1) (va_up g5 1 (upd (g5 1) (((1390 : Int32) + a1)).toNatClampNeg (v7 + (1 : Int32)))) (fun g9 => (some g9)))))))))
set_option maxHeartbeats 4000000 in
set_option maxRecDepth 100000 in
theorem f11_append_ok (l : Launch) (D : va_G) (cy : Nat → ClassId) (ad : Nat → Nat → Nat → Nat) (ns : List (Nat × Nat × Nat)) (M : Me) (t i : Nat) (hI : IsModel cy ad ns t i) (g : Sg) (a1 : Int32) (a2 : Int32) (m2 : Sg)  (hf : f11_append a1 a2 g = some m2) : Cv l yX11_append (.code yX11_append cX11_append 3 none :: tk_tb) { frames := 1, cells := 0, slots := 0, locals := 21 } D cy ad ns [.ref (ad t i 0), .int a1, .int a2] (uI M t i g) (uI M t i m2) := by
  refine Cv.of (by decide) (Nat.le_of_ble_eq_true rfl) ?_
  intro p e s m below meth c ls hE hW hl
  obtain ⟨hx, hb, hr, hml, hown, hts, hlk, hK⟩ := hE
  have hA : ∀ q : Nat, s.heap.size ≤ q → Aw ad ns s.heap.size q := fun q h => Or.inr h
  have hl : lv_has ls 3 [(0, .ref (ad t i 0)), (1, .int a1), (2, .int a2)] := hl
  unfold f11_append at hf
  refine lv_aload_n hx hb dX11_append_0 rfl (lv_at hl 0 rfl) ?_
  refine x_get hx hb hts hown hK hW (hI.2 0 (by decide)) uI_o (hI.1 0 _) rfl inX11 2 (by decide) t_742 rfl dX11_append_1 ?_
  refine lv_sipush (v := 1090) hx hb dX11_append_4 (by decide) ?_
  refine lv_bipush (v := 100) hx hb dX11_append_7 (by decide) ?_
  refine lv_iload_n hx hb dX11_append_9 rfl (lv_at hl 1 rfl) ?_
  refine lv_imul hx hb dX11_append_10 ?_
  refine lv_iadd hx hb dX11_append_11 ?_
  refine lv_aload_n hx hb dX11_append_12 rfl (lv_at hl 0 rfl) ?_
  refine lv_iload_n hx hb dX11_append_13 rfl (lv_at hl 1 rfl) ?_
  obtain ⟨r2, hc1, hf⟩ := bd_some hf
  have hC3 := f11_length_ok l D cy ad ns M t i hI g a1 r2 hc1
  refine x_vi (n := 1) (As := [.int a1]) (rest := [.int ((1090 : Int32) + ((100 : Int32) * a1)), .ref (ad t i 1)]) hx hb hml hts hown hK hW hA hC3 (hI.2 0 (by decide)) uI_o (hI.1 0 _) rfl rfl t_827 t_829 p_28 t_14 t_830 rfl (by decide +kernel) rfl rfl ⟨Nat.le_of_ble_eq_true rfl, Nat.le_of_ble_eq_true rfl⟩ hl.1 rfl (lv_room (Nat.le_of_ble_eq_true rfl)) dX11_append_14 ⟨(Nat.le_of_ble_eq_true rfl), (Nat.le_of_ble_eq_true rfl)⟩ (fun H locs hW => ?_)
  refine lv_iadd hx hb dX11_append_17 ?_
  refine lv_iload_n hx hb dX11_append_18 rfl (lv_at hl 2 rfl) ?_
  obtain ⟨hi4, hf⟩ := wr_some hf
  refine x_iast hx hb hK hW (hI.2 1 (by decide)) uI_o (fun _ => (hI.1 1 _)) hi4 uC_leaf dX11_append_19 (fun H locs hW => ?_)
  generalize (va_up g 1 (upd (g 1) ((((1090 : Int32) + ((100 : Int32) * a1)) + r2)).toNatClampNeg a2)) = g5 at hf hW
  refine lv_aload_n hx hb dX11_append_20 rfl (lv_at hl 0 rfl) ?_
  refine x_get hx hb hts hown hK hW (hI.2 0 (by decide)) uI_o (hI.1 0 _) rfl inX11 2 (by decide) t_742 rfl dX11_append_21 ?_
  refine lv_sipush (v := 1390) hx hb dX11_append_24 (by decide) ?_
  refine lv_iload_n hx hb dX11_append_27 rfl (lv_at hl 1 rfl) ?_
  refine lv_iadd hx hb dX11_append_28 ?_
  refine lv_dup2_11 hx hb dX11_append_29 rfl rfl ?_
  obtain ⟨hi6, hf⟩ := rd_some hf
  refine x_iald hx hb hK hW (hI.2 1 (by decide)) uI_o (hI.1 1 _) hi6 dX11_append_30 ?_
  generalize g5 1 (((1390 : Int32) + a1)).toNatClampNeg = v7 at hf ⊢
  refine lv_iconst (v := 1) hx hb dX11_append_31 (by decide) ?_
  refine lv_iadd hx hb dX11_append_32 ?_
  obtain ⟨hi8, hf⟩ := wr_some hf
  refine x_iast hx hb hK hW (hI.2 1 (by decide)) uI_o (fun _ => (hI.1 1 _)) hi8 uC_leaf dX11_append_33 (fun H locs hW => ?_)
  generalize (va_up g5 1 (upd (g5 1) (((1390 : Int32) + a1)).toNatClampNeg (v7 + (1 : Int32)))) = g9 at hf hW
  exact x_vret hx hb hr hlk hK hW (congrArg (fun q => (uI M t i q)) (Option.some.inj hf)) dX11_append_34
def f11_take_j53 (w1 : Int32) (w3 : Int32) (g : Sg) : Option (Int32 × Sg) :=
  (rd 1805 (g 1) ((1390 : Int32) + w1) (fun v14 => (wr 1805 ((1390 : Int32) + w1) (va_up g 1 (upd (g 1) (((1390 : Int32) + w1)).toNatClampNeg (v14 - (1 : Int32)))) (fun g16 => (some (w3, g16))))))
def f11_take_b12 (rec12 : Int32 → Int32 → Int32 → Sg → Option (Int32 × Sg)) (w1 : Int32) (w3 : Int32) (w4 : Int32) (g : Sg) : Option (Int32 × Sg) :=
  ((f11_length g w1).bind (fun r5 => (if r5 ≤ w4 then (f11_take_j53 w1 w3 g) else ((f11_keyAt g w1 w4).bind (fun r9 => (wr 1805 ((((1090 : Int32) + ((100 : Int32) * w1)) + w4) - (1 : Int32)) (va_up g 1 (upd (g 1) (((((1090 : Int32) + ((100 : Int32) * w1)) + w4) - (1 : Int32))).toNatClampNeg r9)) (fun g12 => (rec12 w1 w3 (w4 + (1 : Int32)) g12))))))))
def f11_take_l12 : Nat → Int32 → Int32 → Int32 → Sg → Option (Int32 × Sg)
  | 0 => fun _ _ _ _ => none
  | k + 1 => f11_take_b12 (f11_take_l12 k)
def f11_take (a1 : Int32) (a2 : Int32) (g : Sg) : Option (Int32 × Sg) :=
  ((f11_keyAt g a1 a2).bind (fun r2 => (f11_take_l12 NF a1 r2 (a2 + (1 : Int32)) g)))
set_option maxHeartbeats 4000000 in
set_option maxRecDepth 100000 in
theorem f11_take_ok (l : Launch) (D : va_G) (cy : Nat → ClassId) (ad : Nat → Nat → Nat → Nat) (ns : List (Nat × Nat × Nat)) (M : Me) (t i : Nat) (hI : IsModel cy ad ns t i) (g : Sg) (a1 : Int32) (a2 : Int32) (r : Int32) (m2 : Sg)  (hf : f11_take a1 a2 g = some (r, m2)) : Ci l yX11_take (.code yX11_take cX11_take 5 (some .int) :: tk_tb) { frames := 1, cells := 0, slots := 0, locals := 22 } D cy ad ns [.ref (ad t i 0), .int a1, .int a2] (uI M t i g) r (uI M t i m2) := by
  refine Ci.of (by decide) (Nat.le_of_ble_eq_true rfl) ?_
  intro p e s m below meth c ls hE hW hl
  obtain ⟨hx, hb, hr, hml, hown, hts, hlk, hK⟩ := hE
  have hA : ∀ q : Nat, s.heap.size ≤ q → Aw ad ns s.heap.size q := fun q h => Or.inr h
  have hl : lv_has ls 5 [(0, .ref (ad t i 0)), (1, .int a1), (2, .int a2)] := hl
  unfold f11_take at hf
  have J53 : ∀ (w1 : Int32) (w3 : Int32) (g : Sg) (H : Heap) (locs : List Loc) (ls : Array Slot), f11_take_j53 w1 w3 g = some (r, m2) → Wl D cy ad ns (Aw ad ns s.heap.size) s.heap (uI M t i g) H locs → lv_has ls 5 [(0, .ref (ad t i 0)), (1, .int w1), (3, .int w3)] → W p l e { frames := 1, cells := 0, slots := 0, locals := 22 } s m ([.ref (ad t i 0), .int a1, .int a2] : List Value).toArray below meth c H locs 0 0 (QI below D cy ad ns [.ref (ad t i 0), .int a1, .int a2] s r (uI M t i m2)) (F0 m 53 ls []) := by
    intro w1 w3 g H locs ls hf hW hl
    unfold f11_take_j53 at hf
    refine lv_aload_n hx hb dX11_take_53 rfl (lv_at hl 0 rfl) ?_
    refine x_get hx hb hts hown hK hW (hI.2 0 (by decide)) uI_o (hI.1 0 _) rfl inX11 2 (by decide) t_742 rfl dX11_take_54 ?_
    refine lv_sipush (v := 1390) hx hb dX11_take_57 (by decide) ?_
    refine lv_iload_n hx hb dX11_take_60 rfl (lv_at hl 1 rfl) ?_
    refine lv_iadd hx hb dX11_take_61 ?_
    refine lv_dup2_11 hx hb dX11_take_62 rfl rfl ?_
    obtain ⟨hi13, hf⟩ := rd_some hf
    refine x_iald hx hb hK hW (hI.2 1 (by decide)) uI_o (hI.1 1 _) hi13 dX11_take_63 ?_
    generalize g 1 (((1390 : Int32) + w1)).toNatClampNeg = v14 at hf ⊢
    refine lv_iconst (v := 1) hx hb dX11_take_64 (by decide) ?_
    refine lv_isub hx hb dX11_take_65 ?_
    obtain ⟨hi15, hf⟩ := wr_some hf
    refine x_iast hx hb hK hW (hI.2 1 (by decide)) uI_o (fun _ => (hI.1 1 _)) hi15 uC_leaf dX11_take_66 (fun H locs hW => ?_)
    generalize (va_up g 1 (upd (g 1) (((1390 : Int32) + w1)).toNatClampNeg (v14 - (1 : Int32)))) = g16 at hf hW
    refine lv_iload_n hx hb dX11_take_67 rfl (lv_at hl 2 rfl) ?_
    exact x_iret hx hb hr hlk hK hW (congrArg Prod.fst (Option.some.inj hf)) (congrArg (fun q => (uI M t i (Prod.snd q))) (Option.some.inj hf)) dX11_take_68
  refine lv_aload_n hx hb dX11_take_0 rfl (lv_at hl 0 rfl) ?_
  refine lv_iload_n hx hb dX11_take_1 rfl (lv_at hl 1 rfl) ?_
  refine lv_iload_n hx hb dX11_take_2 rfl (lv_at hl 2 rfl) ?_
  obtain ⟨r2, hc1, hf⟩ := bd_some hf
  have hC3 := f11_keyAt_ok l D cy ad ns M t i hI g a1 a2 r2 hc1
  refine x_vi (n := 2) (As := [.int a1, .int a2]) (rest := []) hx hb hml hts hown hK hW hA hC3 (hI.2 0 (by decide)) uI_o (hI.1 0 _) rfl rfl t_831 t_833 p_29 t_14 t_834 rfl (by decide +kernel) rfl rfl ⟨Nat.le_of_ble_eq_true rfl, Nat.le_of_ble_eq_true rfl⟩ hl.1 rfl (lv_room (Nat.le_of_ble_eq_true rfl)) dX11_take_3 ⟨(Nat.le_of_ble_eq_true rfl), (Nat.le_of_ble_eq_true rfl)⟩ (fun H locs hW => ?_)
  refine lv_istore_n (lv' := [(3, .int r2), (0, .ref (ad t i 0)), (1, .int a1), (2, .int a2)]) hx hb dX11_take_6 rfl hl (by decide) rfl (fun ls hl => ?_)
  refine lv_iload_n hx hb dX11_take_7 rfl (lv_at hl 3 rfl) ?_
  refine lv_iconst (v := 1) hx hb dX11_take_8 (by decide) ?_
  refine lv_iadd hx hb dX11_take_9 ?_
  refine lv_istore (lv' := [(4, .int (a2 + (1 : Int32))), (3, .int r2), (0, .ref (ad t i 0)), (1, .int a1), (2, .int a2)]) hx hb dX11_take_10 hl (by decide) rfl (fun ls hl => ?_)
  have L12 : ∀ (k : Nat) (w1 : Int32) (w3 : Int32) (w4 : Int32) (g : Sg) (H : Heap) (locs : List Loc) (ls : Array Slot), f11_take_l12 k w1 w3 w4 g = some (r, m2) → Wl D cy ad ns (Aw ad ns s.heap.size) s.heap (uI M t i g) H locs → lv_has ls 5 [(0, .ref (ad t i 0)), (1, .int w1), (3, .int w3), (4, .int w4)] → W p l e { frames := 1, cells := 0, slots := 0, locals := 22 } s m ([.ref (ad t i 0), .int a1, .int a2] : List Value).toArray below meth c H locs 0 0 (QI below D cy ad ns [.ref (ad t i 0), .int a1, .int a2] s r (uI M t i m2)) (F0 m 12 ls []) := by
    intro k
    induction k with
    | zero => intro w1 w3 w4 g H locs ls hf; exact absurd hf (by simp [f11_take_l12])
    | succ k12 ih12 =>
      intro w1 w3 w4 g H locs ls hf hW hl
      have hf : f11_take_b12 (f11_take_l12 k12) w1 w3 w4 g = some (r, m2) := hf
      unfold f11_take_b12 at hf
      refine lv_iload hx hb dX11_take_12 (lv_at hl 3 rfl) ?_
      refine lv_aload_n hx hb dX11_take_14 rfl (lv_at hl 0 rfl) ?_
      refine lv_iload_n hx hb dX11_take_15 rfl (lv_at hl 1 rfl) ?_
      obtain ⟨r5, hc4, hf⟩ := bd_some hf
      have hC6 := f11_length_ok l D cy ad ns M t i hI g w1 r5 hc4
      refine x_vi (n := 1) (As := [.int w1]) (rest := [.int w4]) hx hb hml hts hown hK hW hA hC6 (hI.2 0 (by decide)) uI_o (hI.1 0 _) rfl rfl t_827 t_829 p_28 t_14 t_830 rfl (by decide +kernel) rfl rfl ⟨Nat.le_of_ble_eq_true rfl, Nat.le_of_ble_eq_true rfl⟩ hl.1 rfl (lv_room (Nat.le_of_ble_eq_true rfl)) dX11_take_16 ⟨(Nat.le_of_ble_eq_true rfl), (Nat.le_of_ble_eq_true rfl)⟩ (fun H locs hW => ?_)
      refine lv_icmp_ge (tgt := 53) hx hb dX11_take_19 (by decide) (fun c7 => ?_) (fun c7 => ?_)
      · replace hf := (if_pos c7).symm.trans hf
        exact J53 _ _ _ _ _ _ hf hW (lv_sub hl [0, 1, 2] rfl)
      · replace hf := (if_neg c7).symm.trans hf
        refine lv_aload_n hx hb dX11_take_22 rfl (lv_at hl 0 rfl) ?_
        refine x_get hx hb hts hown hK hW (hI.2 0 (by decide)) uI_o (hI.1 0 _) rfl inX11 2 (by decide) t_742 rfl dX11_take_23 ?_
        refine lv_sipush (v := 1090) hx hb dX11_take_26 (by decide) ?_
        refine lv_bipush (v := 100) hx hb dX11_take_29 (by decide) ?_
        refine lv_iload_n hx hb dX11_take_31 rfl (lv_at hl 1 rfl) ?_
        refine lv_imul hx hb dX11_take_32 ?_
        refine lv_iadd hx hb dX11_take_33 ?_
        refine lv_iload hx hb dX11_take_34 (lv_at hl 3 rfl) ?_
        refine lv_iadd hx hb dX11_take_36 ?_
        refine lv_iconst (v := 1) hx hb dX11_take_37 (by decide) ?_
        refine lv_isub hx hb dX11_take_38 ?_
        refine lv_aload_n hx hb dX11_take_39 rfl (lv_at hl 0 rfl) ?_
        refine lv_iload_n hx hb dX11_take_40 rfl (lv_at hl 1 rfl) ?_
        refine lv_iload hx hb dX11_take_41 (lv_at hl 3 rfl) ?_
        obtain ⟨r9, hc8, hf⟩ := bd_some hf
        have hC10 := f11_keyAt_ok l D cy ad ns M t i hI g w1 w4 r9 hc8
        refine x_vi (n := 2) (As := [.int w1, .int w4]) (rest := [.int ((((1090 : Int32) + ((100 : Int32) * w1)) + w4) - (1 : Int32)), .ref (ad t i 1)]) hx hb hml hts hown hK hW hA hC10 (hI.2 0 (by decide)) uI_o (hI.1 0 _) rfl rfl t_831 t_833 p_29 t_14 t_834 rfl (by decide +kernel) rfl rfl ⟨Nat.le_of_ble_eq_true rfl, Nat.le_of_ble_eq_true rfl⟩ hl.1 rfl (lv_room (Nat.le_of_ble_eq_true rfl)) dX11_take_43 ⟨(Nat.le_of_ble_eq_true rfl), (Nat.le_of_ble_eq_true rfl)⟩ (fun H locs hW => ?_)
        obtain ⟨hi11, hf⟩ := wr_some hf
        refine x_iast hx hb hK hW (hI.2 1 (by decide)) uI_o (fun _ => (hI.1 1 _)) hi11 uC_leaf dX11_take_46 (fun H locs hW => ?_)
        generalize (va_up g 1 (upd (g 1) (((((1090 : Int32) + ((100 : Int32) * w1)) + w4) - (1 : Int32))).toNatClampNeg r9)) = g12 at hf hW
        refine lv_iinc (v := (w4 + (1 : Int32))) (lv' := [(4, .int (w4 + (1 : Int32))), (0, .ref (ad t i 0)), (1, .int w1), (3, .int w3)]) hx hb dX11_take_47 hl (k := 3) rfl (by first | rfl | decide) (by decide) rfl (fun ls hl => ?_)
        refine lv_goto (tgt := 12) hx hb dX11_take_50 (by decide) ?_
        exact ih12 _ _ _ _ _ _ _ hf hW (lv_sub hl [1, 2, 3, 0] rfl)
  exact L12 NF _ _ _ _ _ _ _ hf hW (lv_sub hl [2, 3, 1, 0] rfl)
def f11_settle_b0 (rec0 : Sg → Option Sg) (g : Sg) : Option Sg :=
  ((f11_units g (2 : Int32)).bind (fun r2 => (rd 1805 (g 1) (1394 : Int32) (fun v5 => (if r2 ≤ v5 then (some g) else (b2 (f11_take (2 : Int32) (0 : Int32) g) (fun r9 g8 => ((f11_append (1 : Int32) r9 g8).bind (fun g12 => (rec0 g12))))))))))
def f11_settle_l0 : Nat → Sg → Option Sg
  | 0 => fun _ => none
  | k + 1 => f11_settle_b0 (f11_settle_l0 k)
def f11_settle (g : Sg) : Option Sg :=
  (f11_settle_l0 NF g)
set_option maxHeartbeats 4000000 in
set_option maxRecDepth 100000 in
theorem f11_settle_ok (l : Launch) (D : va_G) (cy : Nat → ClassId) (ad : Nat → Nat → Nat → Nat) (ns : List (Nat × Nat × Nat)) (M : Me) (t i : Nat) (hI : IsModel cy ad ns t i) (g : Sg) (m2 : Sg)  (hf : f11_settle g = some m2) : Cv l yX11_settle (.code yX11_settle cX11_settle 1 none :: tk_tb) { frames := 2, cells := 0, slots := 0, locals := 46 } D cy ad ns [.ref (ad t i 0)] (uI M t i g) (uI M t i m2) := by
  refine Cv.of (by decide) (Nat.le_of_ble_eq_true rfl) ?_
  intro p e s m below meth c ls hE hW hl
  obtain ⟨hx, hb, hr, hml, hown, hts, hlk, hK⟩ := hE
  have hA : ∀ q : Nat, s.heap.size ≤ q → Aw ad ns s.heap.size q := fun q h => Or.inr h
  have hl : lv_has ls 1 [(0, .ref (ad t i 0))] := hl
  unfold f11_settle at hf
  have L0 : ∀ (k : Nat) (g : Sg) (H : Heap) (locs : List Loc) (ls : Array Slot), f11_settle_l0 k g = some m2 → Wl D cy ad ns (Aw ad ns s.heap.size) s.heap (uI M t i g) H locs → lv_has ls 1 [(0, .ref (ad t i 0))] → W p l e { frames := 2, cells := 0, slots := 0, locals := 46 } s m ([.ref (ad t i 0)] : List Value).toArray below meth c H locs 0 0 (QV below D cy ad ns [.ref (ad t i 0)] s (uI M t i m2)) (F0 m 0 ls []) := by
    intro k
    induction k with
    | zero => intro g H locs ls hf; exact absurd hf (by simp [f11_settle_l0])
    | succ k0 ih0 =>
      intro g H locs ls hf hW hl
      have hf : f11_settle_b0 (f11_settle_l0 k0) g = some m2 := hf
      unfold f11_settle_b0 at hf
      refine lv_aload_n hx hb dX11_settle_0 rfl (lv_at hl 0 rfl) ?_
      refine lv_iconst (v := 2) hx hb dX11_settle_1 (by decide) ?_
      obtain ⟨r2, hc1, hf⟩ := bd_some hf
      have hC3 := f11_units_ok l D cy ad ns M t i hI g (2 : Int32) r2 hc1
      refine x_vi (n := 1) (As := [.int (2 : Int32)]) (rest := []) hx hb hml hts hown hK hW hA hC3 (hI.2 0 (by decide)) uI_o (hI.1 0 _) rfl rfl t_871 t_873 p_38 t_14 t_874 rfl (by decide +kernel) rfl rfl ⟨Nat.le_of_ble_eq_true rfl, Nat.le_of_ble_eq_true rfl⟩ hl.1 rfl (lv_room (Nat.le_of_ble_eq_true rfl)) dX11_settle_2 ⟨(Nat.le_of_ble_eq_true rfl), (Nat.le_of_ble_eq_true rfl)⟩ (fun H locs hW => ?_)
      refine lv_aload_n hx hb dX11_settle_5 rfl (lv_at hl 0 rfl) ?_
      refine x_get hx hb hts hown hK hW (hI.2 0 (by decide)) uI_o (hI.1 0 _) rfl inX11 2 (by decide) t_742 rfl dX11_settle_6 ?_
      refine lv_sipush (v := 1394) hx hb dX11_settle_9 (by decide) ?_
      obtain ⟨hi4, hf⟩ := rd_some hf
      refine x_iald hx hb hK hW (hI.2 1 (by decide)) uI_o (hI.1 1 _) hi4 dX11_settle_12 ?_
      generalize g 1 ((1394 : Int32)).toNatClampNeg = v5 at hf ⊢
      refine lv_icmp_le (tgt := 30) hx hb dX11_settle_13 (by decide) (fun c6 => ?_) (fun c6 => ?_)
      · replace hf := (if_pos c6).symm.trans hf
        exact x_vret hx hb hr hlk hK hW (congrArg (fun q => (uI M t i q)) (Option.some.inj hf)) dX11_settle_30
      · replace hf := (if_neg c6).symm.trans hf
        refine lv_aload_n hx hb dX11_settle_16 rfl (lv_at hl 0 rfl) ?_
        refine lv_iconst (v := 1) hx hb dX11_settle_17 (by decide) ?_
        refine lv_aload_n hx hb dX11_settle_18 rfl (lv_at hl 0 rfl) ?_
        refine lv_iconst (v := 2) hx hb dX11_settle_19 (by decide) ?_
        refine lv_iconst (v := 0) hx hb dX11_settle_20 (by decide) ?_
        obtain ⟨r9, g8, hc7, hf⟩ := b2_some hf
        have hC10 := f11_take_ok l D cy ad ns M t i hI g (2 : Int32) (0 : Int32) r9 g8 hc7
        refine x_vi (n := 2) (As := [.int (2 : Int32), .int (0 : Int32)]) (rest := [.int (1 : Int32), .ref (ad t i 0)]) hx hb hml hts hown hK hW hA hC10 (hI.2 0 (by decide)) uI_o (hI.1 0 _) rfl rfl t_859 t_861 p_35 t_14 t_862 rfl (by decide +kernel) rfl rfl ⟨Nat.le_of_ble_eq_true rfl, Nat.le_of_ble_eq_true rfl⟩ hl.1 rfl (lv_room (Nat.le_of_ble_eq_true rfl)) dX11_settle_21 ⟨(Nat.le_of_ble_eq_true rfl), (Nat.le_of_ble_eq_true rfl)⟩ (fun H locs hW => ?_)
        obtain ⟨g12, hc11, hf⟩ := bd_some hf
        have hC13 := f11_append_ok l D cy ad ns M t i hI g8 (1 : Int32) r9 g12 hc11
        refine x_vv (n := 2) (As := [.int (1 : Int32), .int r9]) (rest := []) hx hb hml hts hown hK hW hA hC13 (hI.2 0 (by decide)) uI_o (hI.1 0 _) rfl rfl t_863 t_865 p_36 t_14 t_866 rfl (by decide +kernel) rfl rfl ⟨Nat.le_of_ble_eq_true rfl, Nat.le_of_ble_eq_true rfl⟩ hl.1 rfl (lv_room (Nat.le_of_ble_eq_true rfl)) dX11_settle_24 ⟨(Nat.le_of_ble_eq_true rfl), (Nat.le_of_ble_eq_true rfl)⟩ (fun H locs hW => ?_)
        refine lv_goto (tgt := 0) hx hb dX11_settle_27 (by decide) ?_
        exact ih0 _ _ _ _ hf hW (lv_sub hl [0] rfl)
  exact L0 NF _ _ _ _ hf hW (lv_sub hl [0] rfl)
def f11_together_j82 (rec30 : Int32 → Int32 → Int32 → Int32 → Int32 → Int32 → Sg → Option Sg) (w1 : Int32) (w3 : Int32) (w4 : Int32) (w5 : Int32) (w6 : Int32) (w7 : Int32) (w8 : Int32) (g : Sg) : Option Sg :=
  (rd 1805 (g 1) ((990 : Int32) + w8) (fun v26 => ((f11_estimated g w8).bind (fun r28 => (rec30 w1 w3 w4 (w5 + v26) (w6 + r28) w7 g)))))
def f11_together_j200 (w1 : Int32) (w3 : Int32) (w4 : Int32) (w8 : Int32) (g : Sg) : Option Sg :=
  (rd 1805 (g 1) (1399 : Int32) (fun v62 => (if w8 = 0 then (wr 1805 (1399 : Int32) (va_up g 1 (upd (g 1) ((1399 : Int32)).toNatClampNeg (v62 + (1 : Int32)))) (fun g65 => (if w8 = 0 then (some g65) else ((f11_append (1 : Int32) w1 g65).bind (fun g68 => (some g68)))))) else (wr 1805 (1399 : Int32) (va_up g 1 (upd (g 1) ((1399 : Int32)).toNatClampNeg (v62 + (w3 + w4)))) (fun g71 => (if w8 = 0 then (some g71) else ((f11_append (1 : Int32) w1 g71).bind (fun g74 => (some g74)))))))))
def f11_together_b167 (rec167 : Int32 → Int32 → Int32 → Int32 → Int32 → Sg → Option Sg) (w1 : Int32) (w3 : Int32) (w4 : Int32) (w8 : Int32) (w9 : Int32) (g : Sg) : Option Sg :=
  (if w4 ≤ w9 then (f11_together_j200 w1 w3 w4 w8 g) else (b2 (f11_take (2 : Int32) (0 : Int32) g) (fun r55 g54 => (if w8 = 0 then ((f11_append (2 : Int32) r55 g54).bind (fun g59 => (rec167 w1 w3 w4 w8 (w9 + (1 : Int32)) g59))) else (rec167 w1 w3 w4 w8 (w9 + (1 : Int32)) g54)))))
def f11_together_l167 : Nat → Int32 → Int32 → Int32 → Int32 → Int32 → Sg → Option Sg
  | 0 => fun _ _ _ _ _ _ => none
  | k + 1 => f11_together_b167 (f11_together_l167 k)
def f11_together_j164 (w1 : Int32) (w3 : Int32) (w4 : Int32) (w8 : Int32) (g : Sg) : Option Sg :=
  (f11_together_l167 NF w1 w3 w4 w8 (0 : Int32) g)
def f11_together_b132 (rec132 : Int32 → Int32 → Int32 → Int32 → Int32 → Sg → Option Sg) (w1 : Int32) (w3 : Int32) (w4 : Int32) (w8 : Int32) (w9 : Int32) (g : Sg) : Option Sg :=
  (if w3 ≤ w9 then (f11_together_j164 w1 w3 w4 w8 g) else (b2 (f11_take (1 : Int32) (0 : Int32) g) (fun r46 g45 => (if w8 = 0 then ((f11_append (1 : Int32) r46 g45).bind (fun g50 => (rec132 w1 w3 w4 w8 (w9 + (1 : Int32)) g50))) else (rec132 w1 w3 w4 w8 (w9 + (1 : Int32)) g45)))))
def f11_together_l132 : Nat → Int32 → Int32 → Int32 → Int32 → Int32 → Sg → Option Sg
  | 0 => fun _ _ _ _ _ _ => none
  | k + 1 => f11_together_b132 (f11_together_l132 k)
def f11_together_j112 (w1 : Int32) (w3 : Int32) (w4 : Int32) (w6 : Int32) (g : Sg) : Option Sg :=
  ((f11_estimated g w1).bind (fun r31 => (if r31 ≤ w6 then (f11_together_l132 NF w1 w3 w4 (0 : Int32) (0 : Int32) g) else (f11_together_l132 NF w1 w3 w4 (1 : Int32) (0 : Int32) g))))
def f11_together_b30 (rec30 : Int32 → Int32 → Int32 → Int32 → Int32 → Int32 → Sg → Option Sg) (w1 : Int32) (w3 : Int32) (w4 : Int32) (w5 : Int32) (w6 : Int32) (w7 : Int32) (g : Sg) : Option Sg :=
  (if w7 ≤ w5 then (f11_together_j112 w1 w3 w4 w6 g) else ((f11_length g (1 : Int32)).bind (fun r8 => (if r8 ≤ w3 then ((f11_keyAt g (2 : Int32) w4).bind (fun r12 => ((f11_length g (1 : Int32)).bind (fun r15 => (if r15 ≤ w3 then (f11_together_j82 rec30 w1 w3 (w4 + (1 : Int32)) w5 w6 w7 r12 g) else (f11_together_j82 rec30 w1 (w3 + (1 : Int32)) w4 w5 w6 w7 r12 g)))))) else ((f11_keyAt g (1 : Int32) w3).bind (fun r19 => ((f11_length g (1 : Int32)).bind (fun r22 => (if r22 ≤ w3 then (f11_together_j82 rec30 w1 w3 (w4 + (1 : Int32)) w5 w6 w7 r19 g) else (f11_together_j82 rec30 w1 (w3 + (1 : Int32)) w4 w5 w6 w7 r19 g))))))))))
def f11_together_l30 : Nat → Int32 → Int32 → Int32 → Int32 → Int32 → Int32 → Sg → Option Sg
  | 0 => fun _ _ _ _ _ _ _ => none
  | k + 1 => f11_together_b30 (f11_together_l30 k)
def f11_together (a1 : Int32) (a2 : Int32) (g : Sg) : Option Sg :=
  ((f11_inMain g).bind (fun r2 => (rd 1805 (g 1) ((990 : Int32) + a1) (fun v5 => (f11_together_l30 NF a1 (0 : Int32) (0 : Int32) (0 : Int32) (0 : Int32) ((r2 + v5) - a2) g)))))
set_option maxHeartbeats 4000000 in
set_option maxRecDepth 100000 in
theorem f11_together_ok (l : Launch) (D : va_G) (cy : Nat → ClassId) (ad : Nat → Nat → Nat → Nat) (ns : List (Nat × Nat × Nat)) (M : Me) (t i : Nat) (hI : IsModel cy ad ns t i) (g : Sg) (a1 : Int32) (a2 : Int32) (m2 : Sg)  (hf : f11_together a1 a2 g = some m2) : Cv l yX11_together (.code yX11_together cX11_together 11 none :: tk_tb) { frames := 3, cells := 0, slots := 0, locals := 66 } D cy ad ns [.ref (ad t i 0), .int a1, .int a2] (uI M t i g) (uI M t i m2) := by
  refine Cv.of (by decide) (Nat.le_of_ble_eq_true rfl) ?_
  intro p e s m below meth c ls hE hW hl
  obtain ⟨hx, hb, hr, hml, hown, hts, hlk, hK⟩ := hE
  have hA : ∀ q : Nat, s.heap.size ≤ q → Aw ad ns s.heap.size q := fun q h => Or.inr h
  have hl : lv_has ls 11 [(0, .ref (ad t i 0)), (1, .int a1), (2, .int a2)] := hl
  unfold f11_together at hf
  have J200 : ∀ (w1 : Int32) (w3 : Int32) (w4 : Int32) (w8 : Int32) (g : Sg) (H : Heap) (locs : List Loc) (ls : Array Slot), f11_together_j200 w1 w3 w4 w8 g = some m2 → Wl D cy ad ns (Aw ad ns s.heap.size) s.heap (uI M t i g) H locs → lv_has ls 11 [(0, .ref (ad t i 0)), (1, .int w1), (3, .int w3), (4, .int w4), (8, .int w8)] → W p l e { frames := 3, cells := 0, slots := 0, locals := 66 } s m ([.ref (ad t i 0), .int a1, .int a2] : List Value).toArray below meth c H locs 0 0 (QV below D cy ad ns [.ref (ad t i 0), .int a1, .int a2] s (uI M t i m2)) (F0 m 200 ls []) := by
    intro w1 w3 w4 w8 g H locs ls hf hW hl
    unfold f11_together_j200 at hf
    refine lv_aload_n hx hb dX11_together_200 rfl (lv_at hl 0 rfl) ?_
    refine x_get hx hb hts hown hK hW (hI.2 0 (by decide)) uI_o (hI.1 0 _) rfl inX11 2 (by decide) t_742 rfl dX11_together_201 ?_
    refine lv_sipush (v := 1399) hx hb dX11_together_204 (by decide) ?_
    refine lv_dup2_11 hx hb dX11_together_207 rfl rfl ?_
    obtain ⟨hi61, hf⟩ := rd_some hf
    refine x_iald hx hb hK hW (hI.2 1 (by decide)) uI_o (hI.1 1 _) hi61 dX11_together_208 ?_
    generalize g 1 ((1399 : Int32)).toNatClampNeg = v62 at hf ⊢
    refine lv_iload hx hb dX11_together_209 (lv_at hl 4 rfl) ?_
    refine lv_if_eq (tgt := 221) hx hb dX11_together_211 (by decide) (fun c63 => ?_) (fun c63 => ?_)
    · replace hf := (if_pos c63).symm.trans hf
      refine lv_iconst (v := 1) hx hb dX11_together_221 (by decide) ?_
      refine lv_iadd hx hb dX11_together_222 ?_
      obtain ⟨hi64, hf⟩ := wr_some hf
      refine x_iast hx hb hK hW (hI.2 1 (by decide)) uI_o (fun _ => (hI.1 1 _)) hi64 uC_leaf dX11_together_223 (fun H locs hW => ?_)
      generalize (va_up g 1 (upd (g 1) ((1399 : Int32)).toNatClampNeg (v62 + (1 : Int32)))) = g65 at hf hW
      refine lv_iload hx hb dX11_together_224 (lv_at hl 4 rfl) ?_
      refine lv_if_eq (tgt := 235) hx hb dX11_together_226 (by decide) (fun c66 => ?_) (fun c66 => ?_)
      · replace hf := (if_pos c66).symm.trans hf
        exact x_vret hx hb hr hlk hK hW (congrArg (fun q => (uI M t i q)) (Option.some.inj hf)) dX11_together_235
      · replace hf := (if_neg c66).symm.trans hf
        refine lv_aload_n hx hb dX11_together_229 rfl (lv_at hl 0 rfl) ?_
        refine lv_iconst (v := 1) hx hb dX11_together_230 (by decide) ?_
        refine lv_iload_n hx hb dX11_together_231 rfl (lv_at hl 1 rfl) ?_
        obtain ⟨g68, hc67, hf⟩ := bd_some hf
        have hC69 := f11_append_ok l D cy ad ns M t i hI g65 (1 : Int32) w1 g68 hc67
        refine x_vv (n := 2) (As := [.int (1 : Int32), .int w1]) (rest := []) hx hb hml hts hown hK hW hA hC69 (hI.2 0 (by decide)) uI_o (hI.1 0 _) rfl rfl t_863 t_865 p_36 t_14 t_866 rfl (by decide +kernel) rfl rfl ⟨Nat.le_of_ble_eq_true rfl, Nat.le_of_ble_eq_true rfl⟩ hl.1 rfl (lv_room (Nat.le_of_ble_eq_true rfl)) dX11_together_232 ⟨(Nat.le_of_ble_eq_true rfl), (Nat.le_of_ble_eq_true rfl)⟩ (fun H locs hW => ?_)
        exact x_vret hx hb hr hlk hK hW (congrArg (fun q => (uI M t i q)) (Option.some.inj hf)) dX11_together_235
    · replace hf := (if_neg c63).symm.trans hf
      refine lv_iload_n hx hb dX11_together_214 rfl (lv_at hl 2 rfl) ?_
      refine lv_iload hx hb dX11_together_215 (lv_at hl 3 rfl) ?_
      refine lv_iadd hx hb dX11_together_217 ?_
      refine lv_goto (tgt := 222) hx hb dX11_together_218 (by decide) ?_
      refine lv_iadd hx hb dX11_together_222 ?_
      obtain ⟨hi70, hf⟩ := wr_some hf
      refine x_iast hx hb hK hW (hI.2 1 (by decide)) uI_o (fun _ => (hI.1 1 _)) hi70 uC_leaf dX11_together_223 (fun H locs hW => ?_)
      generalize (va_up g 1 (upd (g 1) ((1399 : Int32)).toNatClampNeg (v62 + (w3 + w4)))) = g71 at hf hW
      refine lv_iload hx hb dX11_together_224 (lv_at hl 4 rfl) ?_
      refine lv_if_eq (tgt := 235) hx hb dX11_together_226 (by decide) (fun c72 => ?_) (fun c72 => ?_)
      · replace hf := (if_pos c72).symm.trans hf
        exact x_vret hx hb hr hlk hK hW (congrArg (fun q => (uI M t i q)) (Option.some.inj hf)) dX11_together_235
      · replace hf := (if_neg c72).symm.trans hf
        refine lv_aload_n hx hb dX11_together_229 rfl (lv_at hl 0 rfl) ?_
        refine lv_iconst (v := 1) hx hb dX11_together_230 (by decide) ?_
        refine lv_iload_n hx hb dX11_together_231 rfl (lv_at hl 1 rfl) ?_
        obtain ⟨g74, hc73, hf⟩ := bd_some hf
        have hC75 := f11_append_ok l D cy ad ns M t i hI g71 (1 : Int32) w1 g74 hc73
        refine x_vv (n := 2) (As := [.int (1 : Int32), .int w1]) (rest := []) hx hb hml hts hown hK hW hA hC75 (hI.2 0 (by decide)) uI_o (hI.1 0 _) rfl rfl t_863 t_865 p_36 t_14 t_866 rfl (by decide +kernel) rfl rfl ⟨Nat.le_of_ble_eq_true rfl, Nat.le_of_ble_eq_true rfl⟩ hl.1 rfl (lv_room (Nat.le_of_ble_eq_true rfl)) dX11_together_232 ⟨(Nat.le_of_ble_eq_true rfl), (Nat.le_of_ble_eq_true rfl)⟩ (fun H locs hW => ?_)
        exact x_vret hx hb hr hlk hK hW (congrArg (fun q => (uI M t i q)) (Option.some.inj hf)) dX11_together_235
  have J164 : ∀ (w1 : Int32) (w3 : Int32) (w4 : Int32) (w8 : Int32) (g : Sg) (H : Heap) (locs : List Loc) (ls : Array Slot), f11_together_j164 w1 w3 w4 w8 g = some m2 → Wl D cy ad ns (Aw ad ns s.heap.size) s.heap (uI M t i g) H locs → lv_has ls 11 [(0, .ref (ad t i 0)), (1, .int w1), (3, .int w3), (4, .int w4), (8, .int w8)] → W p l e { frames := 3, cells := 0, slots := 0, locals := 66 } s m ([.ref (ad t i 0), .int a1, .int a2] : List Value).toArray below meth c H locs 0 0 (QV below D cy ad ns [.ref (ad t i 0), .int a1, .int a2] s (uI M t i m2)) (F0 m 164 ls []) := by
    intro w1 w3 w4 w8 g H locs ls hf hW hl
    unfold f11_together_j164 at hf
    refine lv_iconst (v := 0) hx hb dX11_together_164 (by decide) ?_
    refine lv_istore (lv' := [(9, .int (0 : Int32)), (0, .ref (ad t i 0)), (1, .int w1), (3, .int w3), (4, .int w4), (8, .int w8)]) hx hb dX11_together_165 hl (by decide) rfl (fun ls hl => ?_)
    have L167 : ∀ (k : Nat) (w1 : Int32) (w3 : Int32) (w4 : Int32) (w8 : Int32) (w9 : Int32) (g : Sg) (H : Heap) (locs : List Loc) (ls : Array Slot), f11_together_l167 k w1 w3 w4 w8 w9 g = some m2 → Wl D cy ad ns (Aw ad ns s.heap.size) s.heap (uI M t i g) H locs → lv_has ls 11 [(0, .ref (ad t i 0)), (1, .int w1), (3, .int w3), (4, .int w4), (8, .int w8), (9, .int w9)] → W p l e { frames := 3, cells := 0, slots := 0, locals := 66 } s m ([.ref (ad t i 0), .int a1, .int a2] : List Value).toArray below meth c H locs 0 0 (QV below D cy ad ns [.ref (ad t i 0), .int a1, .int a2] s (uI M t i m2)) (F0 m 167 ls []) := by
      intro k
      induction k with
      | zero => intro w1 w3 w4 w8 w9 g H locs ls hf; exact absurd hf (by simp [f11_together_l167])
      | succ k167 ih167 =>
        intro w1 w3 w4 w8 w9 g H locs ls hf hW hl
        have hf : f11_together_b167 (f11_together_l167 k167) w1 w3 w4 w8 w9 g = some m2 := hf
        unfold f11_together_b167 at hf
        refine lv_iload hx hb dX11_together_167 (lv_at hl 5 rfl) ?_
        refine lv_iload hx hb dX11_together_169 (lv_at hl 3 rfl) ?_
        refine lv_icmp_ge (tgt := 200) hx hb dX11_together_171 (by decide) (fun c52 => ?_) (fun c52 => ?_)
        · replace hf := (if_pos c52).symm.trans hf
          exact J200 _ _ _ _ _ _ _ _ hf hW (lv_sub hl [0, 1, 2, 3, 4] rfl)
        · replace hf := (if_neg c52).symm.trans hf
          refine lv_aload_n hx hb dX11_together_174 rfl (lv_at hl 0 rfl) ?_
          refine lv_iconst (v := 2) hx hb dX11_together_175 (by decide) ?_
          refine lv_iconst (v := 0) hx hb dX11_together_176 (by decide) ?_
          obtain ⟨r55, g54, hc53, hf⟩ := b2_some hf
          have hC56 := f11_take_ok l D cy ad ns M t i hI g (2 : Int32) (0 : Int32) r55 g54 hc53
          refine x_vi (n := 2) (As := [.int (2 : Int32), .int (0 : Int32)]) (rest := []) hx hb hml hts hown hK hW hA hC56 (hI.2 0 (by decide)) uI_o (hI.1 0 _) rfl rfl t_859 t_861 p_35 t_14 t_862 rfl (by decide +kernel) rfl rfl ⟨Nat.le_of_ble_eq_true rfl, Nat.le_of_ble_eq_true rfl⟩ hl.1 rfl (lv_room (Nat.le_of_ble_eq_true rfl)) dX11_together_177 ⟨(Nat.le_of_ble_eq_true rfl), (Nat.le_of_ble_eq_true rfl)⟩ (fun H locs hW => ?_)
          refine lv_istore (lv' := [(10, .int r55), (0, .ref (ad t i 0)), (1, .int w1), (3, .int w3), (4, .int w4), (8, .int w8), (9, .int w9)]) hx hb dX11_together_180 hl (by decide) rfl (fun ls hl => ?_)
          refine lv_iload hx hb dX11_together_182 (lv_at hl 5 rfl) ?_
          refine lv_if_ne (tgt := 194) hx hb dX11_together_184 (by decide) (fun c57 => ?_) (fun c57 => ?_)
          · replace hf := (if_neg c57).symm.trans hf
            refine lv_iinc (v := (w9 + (1 : Int32))) (lv' := [(9, .int (w9 + (1 : Int32))), (10, .int r55), (0, .ref (ad t i 0)), (1, .int w1), (3, .int w3), (4, .int w4), (8, .int w8)]) hx hb dX11_together_194 hl (k := 6) rfl (by first | rfl | decide) (by decide) rfl (fun ls hl => ?_)
            refine lv_goto (tgt := 167) hx hb dX11_together_197 (by decide) ?_
            exact ih167 _ _ _ _ _ _ _ _ _ hf hW (lv_sub hl [2, 3, 4, 5, 6, 0] rfl)
          · replace hf := (if_pos c57).symm.trans hf
            refine lv_aload_n hx hb dX11_together_187 rfl (lv_at hl 1 rfl) ?_
            refine lv_iconst (v := 2) hx hb dX11_together_188 (by decide) ?_
            refine lv_iload hx hb dX11_together_189 (lv_at hl 0 rfl) ?_
            obtain ⟨g59, hc58, hf⟩ := bd_some hf
            have hC60 := f11_append_ok l D cy ad ns M t i hI g54 (2 : Int32) r55 g59 hc58
            refine x_vv (n := 2) (As := [.int (2 : Int32), .int r55]) (rest := []) hx hb hml hts hown hK hW hA hC60 (hI.2 0 (by decide)) uI_o (hI.1 0 _) rfl rfl t_863 t_865 p_36 t_14 t_866 rfl (by decide +kernel) rfl rfl ⟨Nat.le_of_ble_eq_true rfl, Nat.le_of_ble_eq_true rfl⟩ hl.1 rfl (lv_room (Nat.le_of_ble_eq_true rfl)) dX11_together_191 ⟨(Nat.le_of_ble_eq_true rfl), (Nat.le_of_ble_eq_true rfl)⟩ (fun H locs hW => ?_)
            refine lv_iinc (v := (w9 + (1 : Int32))) (lv' := [(9, .int (w9 + (1 : Int32))), (10, .int r55), (0, .ref (ad t i 0)), (1, .int w1), (3, .int w3), (4, .int w4), (8, .int w8)]) hx hb dX11_together_194 hl (k := 6) rfl (by first | rfl | decide) (by decide) rfl (fun ls hl => ?_)
            refine lv_goto (tgt := 167) hx hb dX11_together_197 (by decide) ?_
            exact ih167 _ _ _ _ _ _ _ _ _ hf hW (lv_sub hl [2, 3, 4, 5, 6, 0] rfl)
    exact L167 NF _ _ _ _ _ _ _ _ _ hf hW (lv_sub hl [1, 2, 3, 4, 5, 0] rfl)
  have J112 : ∀ (w1 : Int32) (w3 : Int32) (w4 : Int32) (w6 : Int32) (g : Sg) (H : Heap) (locs : List Loc) (ls : Array Slot), f11_together_j112 w1 w3 w4 w6 g = some m2 → Wl D cy ad ns (Aw ad ns s.heap.size) s.heap (uI M t i g) H locs → lv_has ls 11 [(0, .ref (ad t i 0)), (1, .int w1), (3, .int w3), (4, .int w4), (6, .int w6)] → W p l e { frames := 3, cells := 0, slots := 0, locals := 66 } s m ([.ref (ad t i 0), .int a1, .int a2] : List Value).toArray below meth c H locs 0 0 (QV below D cy ad ns [.ref (ad t i 0), .int a1, .int a2] s (uI M t i m2)) (F0 m 112 ls []) := by
    intro w1 w3 w4 w6 g H locs ls hf hW hl
    unfold f11_together_j112 at hf
    refine lv_aload_n hx hb dX11_together_112 rfl (lv_at hl 0 rfl) ?_
    refine lv_iload_n hx hb dX11_together_113 rfl (lv_at hl 1 rfl) ?_
    obtain ⟨r31, hc30, hf⟩ := bd_some hf
    have hC32 := f11_estimated_ok l D cy ad ns M t i hI g w1 r31 hc30
    refine x_vi (n := 1) (As := [.int w1]) (rest := []) hx hb hml hts hown hK hW hA hC32 (hI.2 0 (by decide)) uI_o (hI.1 0 _) rfl rfl t_887 t_889 p_42 t_14 t_890 rfl (by decide +kernel) rfl rfl ⟨Nat.le_of_ble_eq_true rfl, Nat.le_of_ble_eq_true rfl⟩ hl.1 rfl (lv_room (Nat.le_of_ble_eq_true rfl)) dX11_together_114 ⟨(Nat.le_of_ble_eq_true rfl), (Nat.le_of_ble_eq_true rfl)⟩ (fun H locs hW => ?_)
    refine lv_iload hx hb dX11_together_117 (lv_at hl 4 rfl) ?_
    refine lv_icmp_le (tgt := 126) hx hb dX11_together_119 (by decide) (fun c33 => ?_) (fun c33 => ?_)
    · replace hf := (if_pos c33).symm.trans hf
      refine lv_iconst (v := 0) hx hb dX11_together_126 (by decide) ?_
      refine lv_istore (lv' := [(8, .int (0 : Int32)), (0, .ref (ad t i 0)), (1, .int w1), (3, .int w3), (4, .int w4), (6, .int w6)]) hx hb dX11_together_127 hl (by decide) rfl (fun ls hl => ?_)
      refine lv_iconst (v := 0) hx hb dX11_together_129 (by decide) ?_
      refine lv_istore (lv' := [(9, .int (0 : Int32)), (8, .int (0 : Int32)), (0, .ref (ad t i 0)), (1, .int w1), (3, .int w3), (4, .int w4), (6, .int w6)]) hx hb dX11_together_130 hl (by decide) rfl (fun ls hl => ?_)
      have L132 : ∀ (k : Nat) (w1 : Int32) (w3 : Int32) (w4 : Int32) (w8 : Int32) (w9 : Int32) (g : Sg) (H : Heap) (locs : List Loc) (ls : Array Slot), f11_together_l132 k w1 w3 w4 w8 w9 g = some m2 → Wl D cy ad ns (Aw ad ns s.heap.size) s.heap (uI M t i g) H locs → lv_has ls 11 [(0, .ref (ad t i 0)), (1, .int w1), (3, .int w3), (4, .int w4), (8, .int w8), (9, .int w9)] → W p l e { frames := 3, cells := 0, slots := 0, locals := 66 } s m ([.ref (ad t i 0), .int a1, .int a2] : List Value).toArray below meth c H locs 0 0 (QV below D cy ad ns [.ref (ad t i 0), .int a1, .int a2] s (uI M t i m2)) (F0 m 132 ls []) := by
        intro k
        induction k with
        | zero => intro w1 w3 w4 w8 w9 g H locs ls hf; exact absurd hf (by simp [f11_together_l132])
        | succ k132 ih132 =>
          intro w1 w3 w4 w8 w9 g H locs ls hf hW hl
          have hf : f11_together_b132 (f11_together_l132 k132) w1 w3 w4 w8 w9 g = some m2 := hf
          unfold f11_together_b132 at hf
          refine lv_iload hx hb dX11_together_132 (lv_at hl 5 rfl) ?_
          refine lv_iload_n hx hb dX11_together_134 rfl (lv_at hl 2 rfl) ?_
          refine lv_icmp_ge (tgt := 164) hx hb dX11_together_135 (by decide) (fun c34 => ?_) (fun c34 => ?_)
          · replace hf := (if_pos c34).symm.trans hf
            exact J164 _ _ _ _ _ _ _ _ hf hW (lv_sub hl [0, 1, 2, 3, 4] rfl)
          · replace hf := (if_neg c34).symm.trans hf
            refine lv_aload_n hx hb dX11_together_138 rfl (lv_at hl 0 rfl) ?_
            refine lv_iconst (v := 1) hx hb dX11_together_139 (by decide) ?_
            refine lv_iconst (v := 0) hx hb dX11_together_140 (by decide) ?_
            obtain ⟨r37, g36, hc35, hf⟩ := b2_some hf
            have hC38 := f11_take_ok l D cy ad ns M t i hI g (1 : Int32) (0 : Int32) r37 g36 hc35
            refine x_vi (n := 2) (As := [.int (1 : Int32), .int (0 : Int32)]) (rest := []) hx hb hml hts hown hK hW hA hC38 (hI.2 0 (by decide)) uI_o (hI.1 0 _) rfl rfl t_859 t_861 p_35 t_14 t_862 rfl (by decide +kernel) rfl rfl ⟨Nat.le_of_ble_eq_true rfl, Nat.le_of_ble_eq_true rfl⟩ hl.1 rfl (lv_room (Nat.le_of_ble_eq_true rfl)) dX11_together_141 ⟨(Nat.le_of_ble_eq_true rfl), (Nat.le_of_ble_eq_true rfl)⟩ (fun H locs hW => ?_)
            refine lv_istore (lv' := [(10, .int r37), (0, .ref (ad t i 0)), (1, .int w1), (3, .int w3), (4, .int w4), (8, .int w8), (9, .int w9)]) hx hb dX11_together_144 hl (by decide) rfl (fun ls hl => ?_)
            refine lv_iload hx hb dX11_together_146 (lv_at hl 5 rfl) ?_
            refine lv_if_ne (tgt := 158) hx hb dX11_together_148 (by decide) (fun c39 => ?_) (fun c39 => ?_)
            · replace hf := (if_neg c39).symm.trans hf
              refine lv_iinc (v := (w9 + (1 : Int32))) (lv' := [(9, .int (w9 + (1 : Int32))), (10, .int r37), (0, .ref (ad t i 0)), (1, .int w1), (3, .int w3), (4, .int w4), (8, .int w8)]) hx hb dX11_together_158 hl (k := 6) rfl (by first | rfl | decide) (by decide) rfl (fun ls hl => ?_)
              refine lv_goto (tgt := 132) hx hb dX11_together_161 (by decide) ?_
              exact ih132 _ _ _ _ _ _ _ _ _ hf hW (lv_sub hl [2, 3, 4, 5, 6, 0] rfl)
            · replace hf := (if_pos c39).symm.trans hf
              refine lv_aload_n hx hb dX11_together_151 rfl (lv_at hl 1 rfl) ?_
              refine lv_iconst (v := 1) hx hb dX11_together_152 (by decide) ?_
              refine lv_iload hx hb dX11_together_153 (lv_at hl 0 rfl) ?_
              obtain ⟨g41, hc40, hf⟩ := bd_some hf
              have hC42 := f11_append_ok l D cy ad ns M t i hI g36 (1 : Int32) r37 g41 hc40
              refine x_vv (n := 2) (As := [.int (1 : Int32), .int r37]) (rest := []) hx hb hml hts hown hK hW hA hC42 (hI.2 0 (by decide)) uI_o (hI.1 0 _) rfl rfl t_863 t_865 p_36 t_14 t_866 rfl (by decide +kernel) rfl rfl ⟨Nat.le_of_ble_eq_true rfl, Nat.le_of_ble_eq_true rfl⟩ hl.1 rfl (lv_room (Nat.le_of_ble_eq_true rfl)) dX11_together_155 ⟨(Nat.le_of_ble_eq_true rfl), (Nat.le_of_ble_eq_true rfl)⟩ (fun H locs hW => ?_)
              refine lv_iinc (v := (w9 + (1 : Int32))) (lv' := [(9, .int (w9 + (1 : Int32))), (10, .int r37), (0, .ref (ad t i 0)), (1, .int w1), (3, .int w3), (4, .int w4), (8, .int w8)]) hx hb dX11_together_158 hl (k := 6) rfl (by first | rfl | decide) (by decide) rfl (fun ls hl => ?_)
              refine lv_goto (tgt := 132) hx hb dX11_together_161 (by decide) ?_
              exact ih132 _ _ _ _ _ _ _ _ _ hf hW (lv_sub hl [2, 3, 4, 5, 6, 0] rfl)
      exact L132 NF _ _ _ _ _ _ _ _ _ hf hW (lv_sub hl [2, 3, 4, 5, 1, 0] rfl)
    · replace hf := (if_neg c33).symm.trans hf
      refine lv_iconst (v := 1) hx hb dX11_together_122 (by decide) ?_
      refine lv_goto (tgt := 127) hx hb dX11_together_123 (by decide) ?_
      refine lv_istore (lv' := [(8, .int (1 : Int32)), (0, .ref (ad t i 0)), (1, .int w1), (3, .int w3), (4, .int w4), (6, .int w6)]) hx hb dX11_together_127 hl (by decide) rfl (fun ls hl => ?_)
      refine lv_iconst (v := 0) hx hb dX11_together_129 (by decide) ?_
      refine lv_istore (lv' := [(9, .int (0 : Int32)), (8, .int (1 : Int32)), (0, .ref (ad t i 0)), (1, .int w1), (3, .int w3), (4, .int w4), (6, .int w6)]) hx hb dX11_together_130 hl (by decide) rfl (fun ls hl => ?_)
      have L132 : ∀ (k : Nat) (w1 : Int32) (w3 : Int32) (w4 : Int32) (w8 : Int32) (w9 : Int32) (g : Sg) (H : Heap) (locs : List Loc) (ls : Array Slot), f11_together_l132 k w1 w3 w4 w8 w9 g = some m2 → Wl D cy ad ns (Aw ad ns s.heap.size) s.heap (uI M t i g) H locs → lv_has ls 11 [(0, .ref (ad t i 0)), (1, .int w1), (3, .int w3), (4, .int w4), (8, .int w8), (9, .int w9)] → W p l e { frames := 3, cells := 0, slots := 0, locals := 66 } s m ([.ref (ad t i 0), .int a1, .int a2] : List Value).toArray below meth c H locs 0 0 (QV below D cy ad ns [.ref (ad t i 0), .int a1, .int a2] s (uI M t i m2)) (F0 m 132 ls []) := by
        intro k
        induction k with
        | zero => intro w1 w3 w4 w8 w9 g H locs ls hf; exact absurd hf (by simp [f11_together_l132])
        | succ k132 ih132 =>
          intro w1 w3 w4 w8 w9 g H locs ls hf hW hl
          have hf : f11_together_b132 (f11_together_l132 k132) w1 w3 w4 w8 w9 g = some m2 := hf
          unfold f11_together_b132 at hf
          refine lv_iload hx hb dX11_together_132 (lv_at hl 5 rfl) ?_
          refine lv_iload_n hx hb dX11_together_134 rfl (lv_at hl 2 rfl) ?_
          refine lv_icmp_ge (tgt := 164) hx hb dX11_together_135 (by decide) (fun c43 => ?_) (fun c43 => ?_)
          · replace hf := (if_pos c43).symm.trans hf
            exact J164 _ _ _ _ _ _ _ _ hf hW (lv_sub hl [0, 1, 2, 3, 4] rfl)
          · replace hf := (if_neg c43).symm.trans hf
            refine lv_aload_n hx hb dX11_together_138 rfl (lv_at hl 0 rfl) ?_
            refine lv_iconst (v := 1) hx hb dX11_together_139 (by decide) ?_
            refine lv_iconst (v := 0) hx hb dX11_together_140 (by decide) ?_
            obtain ⟨r46, g45, hc44, hf⟩ := b2_some hf
            have hC47 := f11_take_ok l D cy ad ns M t i hI g (1 : Int32) (0 : Int32) r46 g45 hc44
            refine x_vi (n := 2) (As := [.int (1 : Int32), .int (0 : Int32)]) (rest := []) hx hb hml hts hown hK hW hA hC47 (hI.2 0 (by decide)) uI_o (hI.1 0 _) rfl rfl t_859 t_861 p_35 t_14 t_862 rfl (by decide +kernel) rfl rfl ⟨Nat.le_of_ble_eq_true rfl, Nat.le_of_ble_eq_true rfl⟩ hl.1 rfl (lv_room (Nat.le_of_ble_eq_true rfl)) dX11_together_141 ⟨(Nat.le_of_ble_eq_true rfl), (Nat.le_of_ble_eq_true rfl)⟩ (fun H locs hW => ?_)
            refine lv_istore (lv' := [(10, .int r46), (0, .ref (ad t i 0)), (1, .int w1), (3, .int w3), (4, .int w4), (8, .int w8), (9, .int w9)]) hx hb dX11_together_144 hl (by decide) rfl (fun ls hl => ?_)
            refine lv_iload hx hb dX11_together_146 (lv_at hl 5 rfl) ?_
            refine lv_if_ne (tgt := 158) hx hb dX11_together_148 (by decide) (fun c48 => ?_) (fun c48 => ?_)
            · replace hf := (if_neg c48).symm.trans hf
              refine lv_iinc (v := (w9 + (1 : Int32))) (lv' := [(9, .int (w9 + (1 : Int32))), (10, .int r46), (0, .ref (ad t i 0)), (1, .int w1), (3, .int w3), (4, .int w4), (8, .int w8)]) hx hb dX11_together_158 hl (k := 6) rfl (by first | rfl | decide) (by decide) rfl (fun ls hl => ?_)
              refine lv_goto (tgt := 132) hx hb dX11_together_161 (by decide) ?_
              exact ih132 _ _ _ _ _ _ _ _ _ hf hW (lv_sub hl [2, 3, 4, 5, 6, 0] rfl)
            · replace hf := (if_pos c48).symm.trans hf
              refine lv_aload_n hx hb dX11_together_151 rfl (lv_at hl 1 rfl) ?_
              refine lv_iconst (v := 1) hx hb dX11_together_152 (by decide) ?_
              refine lv_iload hx hb dX11_together_153 (lv_at hl 0 rfl) ?_
              obtain ⟨g50, hc49, hf⟩ := bd_some hf
              have hC51 := f11_append_ok l D cy ad ns M t i hI g45 (1 : Int32) r46 g50 hc49
              refine x_vv (n := 2) (As := [.int (1 : Int32), .int r46]) (rest := []) hx hb hml hts hown hK hW hA hC51 (hI.2 0 (by decide)) uI_o (hI.1 0 _) rfl rfl t_863 t_865 p_36 t_14 t_866 rfl (by decide +kernel) rfl rfl ⟨Nat.le_of_ble_eq_true rfl, Nat.le_of_ble_eq_true rfl⟩ hl.1 rfl (lv_room (Nat.le_of_ble_eq_true rfl)) dX11_together_155 ⟨(Nat.le_of_ble_eq_true rfl), (Nat.le_of_ble_eq_true rfl)⟩ (fun H locs hW => ?_)
              refine lv_iinc (v := (w9 + (1 : Int32))) (lv' := [(9, .int (w9 + (1 : Int32))), (10, .int r46), (0, .ref (ad t i 0)), (1, .int w1), (3, .int w3), (4, .int w4), (8, .int w8)]) hx hb dX11_together_158 hl (k := 6) rfl (by first | rfl | decide) (by decide) rfl (fun ls hl => ?_)
              refine lv_goto (tgt := 132) hx hb dX11_together_161 (by decide) ?_
              exact ih132 _ _ _ _ _ _ _ _ _ hf hW (lv_sub hl [2, 3, 4, 5, 6, 0] rfl)
      exact L132 NF _ _ _ _ _ _ _ _ _ hf hW (lv_sub hl [2, 3, 4, 5, 1, 0] rfl)
  refine lv_iconst (v := 0) hx hb dX11_together_0 (by decide) ?_
  refine lv_istore_n (lv' := [(3, .int (0 : Int32)), (0, .ref (ad t i 0)), (1, .int a1), (2, .int a2)]) hx hb dX11_together_1 rfl hl (by decide) rfl (fun ls hl => ?_)
  refine lv_iconst (v := 0) hx hb dX11_together_2 (by decide) ?_
  refine lv_istore (lv' := [(4, .int (0 : Int32)), (3, .int (0 : Int32)), (0, .ref (ad t i 0)), (1, .int a1), (2, .int a2)]) hx hb dX11_together_3 hl (by decide) rfl (fun ls hl => ?_)
  refine lv_iconst (v := 0) hx hb dX11_together_5 (by decide) ?_
  refine lv_istore (lv' := [(5, .int (0 : Int32)), (4, .int (0 : Int32)), (3, .int (0 : Int32)), (0, .ref (ad t i 0)), (1, .int a1), (2, .int a2)]) hx hb dX11_together_6 hl (by decide) rfl (fun ls hl => ?_)
  refine lv_iconst (v := 0) hx hb dX11_together_8 (by decide) ?_
  refine lv_istore (lv' := [(6, .int (0 : Int32)), (5, .int (0 : Int32)), (4, .int (0 : Int32)), (3, .int (0 : Int32)), (0, .ref (ad t i 0)), (1, .int a1), (2, .int a2)]) hx hb dX11_together_9 hl (by decide) rfl (fun ls hl => ?_)
  refine lv_aload_n hx hb dX11_together_11 rfl (lv_at hl 4 rfl) ?_
  obtain ⟨r2, hc1, hf⟩ := bd_some hf
  have hC3 := f11_inMain_ok l D cy ad ns M t i hI g r2 hc1
  refine x_vi (n := 0) (As := []) (rest := []) hx hb hml hts hown hK hW hA hC3 (hI.2 0 (by decide)) uI_o (hI.1 0 _) rfl rfl t_879 t_881 p_40 t_14 t_882 rfl (by decide +kernel) rfl rfl ⟨Nat.le_of_ble_eq_true rfl, Nat.le_of_ble_eq_true rfl⟩ hl.1 rfl (lv_room (Nat.le_of_ble_eq_true rfl)) dX11_together_12 ⟨(Nat.le_of_ble_eq_true rfl), (Nat.le_of_ble_eq_true rfl)⟩ (fun H locs hW => ?_)
  refine lv_aload_n hx hb dX11_together_15 rfl (lv_at hl 4 rfl) ?_
  refine x_get hx hb hts hown hK hW (hI.2 0 (by decide)) uI_o (hI.1 0 _) rfl inX11 2 (by decide) t_742 rfl dX11_together_16 ?_
  refine lv_sipush (v := 990) hx hb dX11_together_19 (by decide) ?_
  refine lv_iload_n hx hb dX11_together_22 rfl (lv_at hl 5 rfl) ?_
  refine lv_iadd hx hb dX11_together_23 ?_
  obtain ⟨hi4, hf⟩ := rd_some hf
  refine x_iald hx hb hK hW (hI.2 1 (by decide)) uI_o (hI.1 1 _) hi4 dX11_together_24 ?_
  generalize g 1 (((990 : Int32) + a1)).toNatClampNeg = v5 at hf ⊢
  refine lv_iadd hx hb dX11_together_25 ?_
  refine lv_iload_n hx hb dX11_together_26 rfl (lv_at hl 6 rfl) ?_
  refine lv_isub hx hb dX11_together_27 ?_
  refine lv_istore (lv' := [(7, .int ((r2 + v5) - a2)), (6, .int (0 : Int32)), (5, .int (0 : Int32)), (4, .int (0 : Int32)), (3, .int (0 : Int32)), (0, .ref (ad t i 0)), (1, .int a1), (2, .int a2)]) hx hb dX11_together_28 hl (by decide) rfl (fun ls hl => ?_)
  have L30 : ∀ (k : Nat) (w1 : Int32) (w3 : Int32) (w4 : Int32) (w5 : Int32) (w6 : Int32) (w7 : Int32) (g : Sg) (H : Heap) (locs : List Loc) (ls : Array Slot), f11_together_l30 k w1 w3 w4 w5 w6 w7 g = some m2 → Wl D cy ad ns (Aw ad ns s.heap.size) s.heap (uI M t i g) H locs → lv_has ls 11 [(0, .ref (ad t i 0)), (1, .int w1), (3, .int w3), (4, .int w4), (5, .int w5), (6, .int w6), (7, .int w7)] → W p l e { frames := 3, cells := 0, slots := 0, locals := 66 } s m ([.ref (ad t i 0), .int a1, .int a2] : List Value).toArray below meth c H locs 0 0 (QV below D cy ad ns [.ref (ad t i 0), .int a1, .int a2] s (uI M t i m2)) (F0 m 30 ls []) := by
    intro k
    induction k with
    | zero => intro w1 w3 w4 w5 w6 w7 g H locs ls hf; exact absurd hf (by simp [f11_together_l30])
    | succ k30 ih30 =>
      intro w1 w3 w4 w5 w6 w7 g H locs ls hf hW hl
      have hf : f11_together_b30 (f11_together_l30 k30) w1 w3 w4 w5 w6 w7 g = some m2 := hf
      unfold f11_together_b30 at hf
      have J82 : ∀ (w1 : Int32) (w3 : Int32) (w4 : Int32) (w5 : Int32) (w6 : Int32) (w7 : Int32) (w8 : Int32) (g : Sg) (H : Heap) (locs : List Loc) (ls : Array Slot), f11_together_j82 (f11_together_l30 k30) w1 w3 w4 w5 w6 w7 w8 g = some m2 → Wl D cy ad ns (Aw ad ns s.heap.size) s.heap (uI M t i g) H locs → lv_has ls 11 [(0, .ref (ad t i 0)), (1, .int w1), (3, .int w3), (4, .int w4), (5, .int w5), (6, .int w6), (7, .int w7), (8, .int w8)] → W p l e { frames := 3, cells := 0, slots := 0, locals := 66 } s m ([.ref (ad t i 0), .int a1, .int a2] : List Value).toArray below meth c H locs 0 0 (QV below D cy ad ns [.ref (ad t i 0), .int a1, .int a2] s (uI M t i m2)) (F0 m 82 ls []) := by
        intro w1 w3 w4 w5 w6 w7 w8 g H locs ls hf hW hl
        unfold f11_together_j82 at hf
        refine lv_iload hx hb dX11_together_82 (lv_at hl 4 rfl) ?_
        refine lv_aload_n hx hb dX11_together_84 rfl (lv_at hl 0 rfl) ?_
        refine x_get hx hb hts hown hK hW (hI.2 0 (by decide)) uI_o (hI.1 0 _) rfl inX11 2 (by decide) t_742 rfl dX11_together_85 ?_
        refine lv_sipush (v := 990) hx hb dX11_together_88 (by decide) ?_
        refine lv_iload hx hb dX11_together_91 (lv_at hl 7 rfl) ?_
        refine lv_iadd hx hb dX11_together_93 ?_
        obtain ⟨hi25, hf⟩ := rd_some hf
        refine x_iald hx hb hK hW (hI.2 1 (by decide)) uI_o (hI.1 1 _) hi25 dX11_together_94 ?_
        generalize g 1 (((990 : Int32) + w8)).toNatClampNeg = v26 at hf ⊢
        refine lv_iadd hx hb dX11_together_95 ?_
        refine lv_istore (lv' := [(5, .int (w5 + v26)), (0, .ref (ad t i 0)), (1, .int w1), (3, .int w3), (4, .int w4), (6, .int w6), (7, .int w7), (8, .int w8)]) hx hb dX11_together_96 hl (by decide) rfl (fun ls hl => ?_)
        refine lv_iload hx hb dX11_together_98 (lv_at hl 5 rfl) ?_
        refine lv_aload_n hx hb dX11_together_100 rfl (lv_at hl 1 rfl) ?_
        refine lv_iload hx hb dX11_together_101 (lv_at hl 7 rfl) ?_
        obtain ⟨r28, hc27, hf⟩ := bd_some hf
        have hC29 := f11_estimated_ok l D cy ad ns M t i hI g w8 r28 hc27
        refine x_vi (n := 1) (As := [.int w8]) (rest := [.int w6]) hx hb hml hts hown hK hW hA hC29 (hI.2 0 (by decide)) uI_o (hI.1 0 _) rfl rfl t_887 t_889 p_42 t_14 t_890 rfl (by decide +kernel) rfl rfl ⟨Nat.le_of_ble_eq_true rfl, Nat.le_of_ble_eq_true rfl⟩ hl.1 rfl (lv_room (Nat.le_of_ble_eq_true rfl)) dX11_together_103 ⟨(Nat.le_of_ble_eq_true rfl), (Nat.le_of_ble_eq_true rfl)⟩ (fun H locs hW => ?_)
        refine lv_iadd hx hb dX11_together_106 ?_
        refine lv_istore (lv' := [(6, .int (w6 + r28)), (5, .int (w5 + v26)), (0, .ref (ad t i 0)), (1, .int w1), (3, .int w3), (4, .int w4), (7, .int w7), (8, .int w8)]) hx hb dX11_together_107 hl (by decide) rfl (fun ls hl => ?_)
        refine lv_goto (tgt := 30) hx hb dX11_together_109 (by decide) ?_
        exact ih30 _ _ _ _ _ _ _ _ _ _ hf hW (lv_sub hl [2, 3, 4, 5, 1, 0, 6] rfl)
      refine lv_iload hx hb dX11_together_30 (lv_at hl 4 rfl) ?_
      refine lv_iload hx hb dX11_together_32 (lv_at hl 6 rfl) ?_
      refine lv_icmp_ge (tgt := 112) hx hb dX11_together_34 (by decide) (fun c6 => ?_) (fun c6 => ?_)
      · replace hf := (if_pos c6).symm.trans hf
        exact J112 _ _ _ _ _ _ _ _ hf hW (lv_sub hl [0, 1, 2, 3, 5] rfl)
      · replace hf := (if_neg c6).symm.trans hf
        refine lv_iload_n hx hb dX11_together_37 rfl (lv_at hl 2 rfl) ?_
        refine lv_aload_n hx hb dX11_together_38 rfl (lv_at hl 0 rfl) ?_
        refine lv_iconst (v := 1) hx hb dX11_together_39 (by decide) ?_
        obtain ⟨r8, hc7, hf⟩ := bd_some hf
        have hC9 := f11_length_ok l D cy ad ns M t i hI g (1 : Int32) r8 hc7
        refine x_vi (n := 1) (As := [.int (1 : Int32)]) (rest := [.int w3]) hx hb hml hts hown hK hW hA hC9 (hI.2 0 (by decide)) uI_o (hI.1 0 _) rfl rfl t_827 t_829 p_28 t_14 t_830 rfl (by decide +kernel) rfl rfl ⟨Nat.le_of_ble_eq_true rfl, Nat.le_of_ble_eq_true rfl⟩ hl.1 rfl (lv_room (Nat.le_of_ble_eq_true rfl)) dX11_together_40 ⟨(Nat.le_of_ble_eq_true rfl), (Nat.le_of_ble_eq_true rfl)⟩ (fun H locs hW => ?_)
        refine lv_icmp_ge (tgt := 55) hx hb dX11_together_43 (by decide) (fun c10 => ?_) (fun c10 => ?_)
        · replace hf := (if_pos c10).symm.trans hf
          refine lv_aload_n hx hb dX11_together_55 rfl (lv_at hl 0 rfl) ?_
          refine lv_iconst (v := 2) hx hb dX11_together_56 (by decide) ?_
          refine lv_iload hx hb dX11_together_57 (lv_at hl 3 rfl) ?_
          obtain ⟨r12, hc11, hf⟩ := bd_some hf
          have hC13 := f11_keyAt_ok l D cy ad ns M t i hI g (2 : Int32) w4 r12 hc11
          refine x_vi (n := 2) (As := [.int (2 : Int32), .int w4]) (rest := []) hx hb hml hts hown hK hW hA hC13 (hI.2 0 (by decide)) uI_o (hI.1 0 _) rfl rfl t_831 t_833 p_29 t_14 t_834 rfl (by decide +kernel) rfl rfl ⟨Nat.le_of_ble_eq_true rfl, Nat.le_of_ble_eq_true rfl⟩ hl.1 rfl (lv_room (Nat.le_of_ble_eq_true rfl)) dX11_together_59 ⟨(Nat.le_of_ble_eq_true rfl), (Nat.le_of_ble_eq_true rfl)⟩ (fun H locs hW => ?_)
          refine lv_istore (lv' := [(8, .int r12), (0, .ref (ad t i 0)), (1, .int w1), (3, .int w3), (4, .int w4), (5, .int w5), (6, .int w6), (7, .int w7)]) hx hb dX11_together_62 hl (by decide) rfl (fun ls hl => ?_)
          refine lv_iload_n hx hb dX11_together_64 rfl (lv_at hl 3 rfl) ?_
          refine lv_aload_n hx hb dX11_together_65 rfl (lv_at hl 1 rfl) ?_
          refine lv_iconst (v := 1) hx hb dX11_together_66 (by decide) ?_
          obtain ⟨r15, hc14, hf⟩ := bd_some hf
          have hC16 := f11_length_ok l D cy ad ns M t i hI g (1 : Int32) r15 hc14
          refine x_vi (n := 1) (As := [.int (1 : Int32)]) (rest := [.int w3]) hx hb hml hts hown hK hW hA hC16 (hI.2 0 (by decide)) uI_o (hI.1 0 _) rfl rfl t_827 t_829 p_28 t_14 t_830 rfl (by decide +kernel) rfl rfl ⟨Nat.le_of_ble_eq_true rfl, Nat.le_of_ble_eq_true rfl⟩ hl.1 rfl (lv_room (Nat.le_of_ble_eq_true rfl)) dX11_together_67 ⟨(Nat.le_of_ble_eq_true rfl), (Nat.le_of_ble_eq_true rfl)⟩ (fun H locs hW => ?_)
          refine lv_icmp_ge (tgt := 79) hx hb dX11_together_70 (by decide) (fun c17 => ?_) (fun c17 => ?_)
          · replace hf := (if_pos c17).symm.trans hf
            refine lv_iinc (v := (w4 + (1 : Int32))) (lv' := [(4, .int (w4 + (1 : Int32))), (8, .int r12), (0, .ref (ad t i 0)), (1, .int w1), (3, .int w3), (5, .int w5), (6, .int w6), (7, .int w7)]) hx hb dX11_together_79 hl (k := 4) rfl (by first | rfl | decide) (by decide) rfl (fun ls hl => ?_)
            exact J82 _ _ _ _ _ _ _ _ _ _ _ hf hW (lv_sub hl [2, 3, 4, 0, 5, 6, 7, 1] rfl)
          · replace hf := (if_neg c17).symm.trans hf
            refine lv_iinc (v := (w3 + (1 : Int32))) (lv' := [(3, .int (w3 + (1 : Int32))), (8, .int r12), (0, .ref (ad t i 0)), (1, .int w1), (4, .int w4), (5, .int w5), (6, .int w6), (7, .int w7)]) hx hb dX11_together_73 hl (k := 3) rfl (by first | rfl | decide) (by decide) rfl (fun ls hl => ?_)
            refine lv_goto (tgt := 82) hx hb dX11_together_76 (by decide) ?_
            exact J82 _ _ _ _ _ _ _ _ _ _ _ hf hW (lv_sub hl [2, 3, 0, 4, 5, 6, 7, 1] rfl)
        · replace hf := (if_neg c10).symm.trans hf
          refine lv_aload_n hx hb dX11_together_46 rfl (lv_at hl 0 rfl) ?_
          refine lv_iconst (v := 1) hx hb dX11_together_47 (by decide) ?_
          refine lv_iload_n hx hb dX11_together_48 rfl (lv_at hl 2 rfl) ?_
          obtain ⟨r19, hc18, hf⟩ := bd_some hf
          have hC20 := f11_keyAt_ok l D cy ad ns M t i hI g (1 : Int32) w3 r19 hc18
          refine x_vi (n := 2) (As := [.int (1 : Int32), .int w3]) (rest := []) hx hb hml hts hown hK hW hA hC20 (hI.2 0 (by decide)) uI_o (hI.1 0 _) rfl rfl t_831 t_833 p_29 t_14 t_834 rfl (by decide +kernel) rfl rfl ⟨Nat.le_of_ble_eq_true rfl, Nat.le_of_ble_eq_true rfl⟩ hl.1 rfl (lv_room (Nat.le_of_ble_eq_true rfl)) dX11_together_49 ⟨(Nat.le_of_ble_eq_true rfl), (Nat.le_of_ble_eq_true rfl)⟩ (fun H locs hW => ?_)
          refine lv_goto (tgt := 62) hx hb dX11_together_52 (by decide) ?_
          refine lv_istore (lv' := [(8, .int r19), (0, .ref (ad t i 0)), (1, .int w1), (3, .int w3), (4, .int w4), (5, .int w5), (6, .int w6), (7, .int w7)]) hx hb dX11_together_62 hl (by decide) rfl (fun ls hl => ?_)
          refine lv_iload_n hx hb dX11_together_64 rfl (lv_at hl 3 rfl) ?_
          refine lv_aload_n hx hb dX11_together_65 rfl (lv_at hl 1 rfl) ?_
          refine lv_iconst (v := 1) hx hb dX11_together_66 (by decide) ?_
          obtain ⟨r22, hc21, hf⟩ := bd_some hf
          have hC23 := f11_length_ok l D cy ad ns M t i hI g (1 : Int32) r22 hc21
          refine x_vi (n := 1) (As := [.int (1 : Int32)]) (rest := [.int w3]) hx hb hml hts hown hK hW hA hC23 (hI.2 0 (by decide)) uI_o (hI.1 0 _) rfl rfl t_827 t_829 p_28 t_14 t_830 rfl (by decide +kernel) rfl rfl ⟨Nat.le_of_ble_eq_true rfl, Nat.le_of_ble_eq_true rfl⟩ hl.1 rfl (lv_room (Nat.le_of_ble_eq_true rfl)) dX11_together_67 ⟨(Nat.le_of_ble_eq_true rfl), (Nat.le_of_ble_eq_true rfl)⟩ (fun H locs hW => ?_)
          refine lv_icmp_ge (tgt := 79) hx hb dX11_together_70 (by decide) (fun c24 => ?_) (fun c24 => ?_)
          · replace hf := (if_pos c24).symm.trans hf
            refine lv_iinc (v := (w4 + (1 : Int32))) (lv' := [(4, .int (w4 + (1 : Int32))), (8, .int r19), (0, .ref (ad t i 0)), (1, .int w1), (3, .int w3), (5, .int w5), (6, .int w6), (7, .int w7)]) hx hb dX11_together_79 hl (k := 4) rfl (by first | rfl | decide) (by decide) rfl (fun ls hl => ?_)
            exact J82 _ _ _ _ _ _ _ _ _ _ _ hf hW (lv_sub hl [2, 3, 4, 0, 5, 6, 7, 1] rfl)
          · replace hf := (if_neg c24).symm.trans hf
            refine lv_iinc (v := (w3 + (1 : Int32))) (lv' := [(3, .int (w3 + (1 : Int32))), (8, .int r19), (0, .ref (ad t i 0)), (1, .int w1), (4, .int w4), (5, .int w5), (6, .int w6), (7, .int w7)]) hx hb dX11_together_73 hl (k := 3) rfl (by first | rfl | decide) (by decide) rfl (fun ls hl => ?_)
            refine lv_goto (tgt := 82) hx hb dX11_together_76 (by decide) ?_
            exact J82 _ _ _ _ _ _ _ _ _ _ _ hf hW (lv_sub hl [2, 3, 0, 4, 5, 6, 7, 1] rfl)
  exact L30 NF _ _ _ _ _ _ _ _ _ _ hf hW (lv_sub hl [5, 6, 4, 3, 2, 1, 0] rfl)
def f11_candidate_j144 (rec72 : Int32 → Int32 → Int32 → Sg → Option Sg) (w1 : Int32) (w2 : Int32) (w3 : Int32) (w4 : Int32) (g : Sg) : Option Sg :=
  (b2 (f11_take w4 (0 : Int32) g) (fun r103 g102 => (rec72 w1 w2 w3 g102)))
def f11_candidate_j156 (w1 : Int32) (g : Sg) : Option Sg :=
  ((f11_append (1 : Int32) w1 g).bind (fun g113 => (some g113)))
def f11_candidate_b72 (rec72 : Int32 → Int32 → Int32 → Sg → Option Sg) (w1 : Int32) (w2 : Int32) (w3 : Int32) (g : Sg) : Option Sg :=
  ((f11_inMain g).bind (fun r60 => (if (r60 + w3) ≤ w2 then (f11_candidate_j156 w1 g) else ((f11_length g (1 : Int32)).bind (fun r64 => (if r64 ≤ 0 then ((f11_keyAt g (2 : Int32) (0 : Int32)).bind (fun r68 => (rd 1805 (g 1) (1399 : Int32) (fun v71 => (wr 1805 (1399 : Int32) (va_up g 1 (upd (g 1) ((1399 : Int32)).toNatClampNeg (v71 + (1 : Int32)))) (fun g73 => (rd 1805 (g73 1) (603 : Int32) (fun v75 => (if v75 = 0 then ((f11_estimated g73 w1).bind (fun r78 => ((f11_estimated g73 r68).bind (fun r81 => (if r81 < r78 then (f11_candidate_j144 rec72 w1 w2 w3 (2 : Int32) g73) else (some g73)))))) else (f11_candidate_j144 rec72 w1 w2 w3 (2 : Int32) g73)))))))))) else ((f11_keyAt g (1 : Int32) (0 : Int32)).bind (fun r85 => (rd 1805 (g 1) (1399 : Int32) (fun v88 => (wr 1805 (1399 : Int32) (va_up g 1 (upd (g 1) ((1399 : Int32)).toNatClampNeg (v88 + (1 : Int32)))) (fun g90 => (rd 1805 (g90 1) (603 : Int32) (fun v92 => (if v92 = 0 then ((f11_estimated g90 w1).bind (fun r95 => ((f11_estimated g90 r85).bind (fun r98 => (if r98 < r95 then (f11_candidate_j144 rec72 w1 w2 w3 (1 : Int32) g90) else (some g90)))))) else (f11_candidate_j144 rec72 w1 w2 w3 (1 : Int32) g90))))))))))))))))
def f11_candidate_l72 : Nat → Int32 → Int32 → Int32 → Sg → Option Sg
  | 0 => fun _ _ _ _ => none
  | k + 1 => f11_candidate_b72 (f11_candidate_l72 k)
def f11_candidate (a1 : Int32) (g : Sg) : Option Sg :=
  (rd 1805 (g 1) (1393 : Int32) (fun v2 => (rd 1805 (g 1) ((990 : Int32) + a1) (fun v4 => (if v4 ≤ ((g 0 1) - v2) then (rd 1805 (g 1) (603 : Int32) (fun v7 => (if v7 = (1 : Int32) then ((f11_inMain g).bind (fun r56 => (if (r56 + v4) ≤ ((g 0 1) - v2) then (f11_candidate_l72 NF a1 ((g 0 1) - v2) v4 g) else ((f11_together a1 ((g 0 1) - v2) g).bind (fun g106 => (some g106)))))) else (f11_candidate_l72 NF a1 ((g 0 1) - v2) v4 g)))) else (rd 1805 (g 1) (1399 : Int32) (fun v109 => (wr 1805 (1399 : Int32) (va_up g 1 (upd (g 1) ((1399 : Int32)).toNatClampNeg (v109 + (1 : Int32)))) (fun g111 => (some g111))))))))))
set_option maxHeartbeats 4000000 in
set_option maxRecDepth 100000 in
theorem f11_candidate_ok (l : Launch) (D : va_G) (cy : Nat → ClassId) (ad : Nat → Nat → Nat → Nat) (ns : List (Nat × Nat × Nat)) (M : Me) (t i : Nat) (hI : IsModel cy ad ns t i) (g : Sg) (a1 : Int32) (m2 : Sg)  (hf : f11_candidate a1 g = some m2) : Cv l yX11_candidate (.code yX11_candidate cX11_candidate 7 none :: tk_tb) { frames := 4, cells := 0, slots := 0, locals := 96 } D cy ad ns [.ref (ad t i 0), .int a1] (uI M t i g) (uI M t i m2) := by
  refine Cv.of (by decide) (Nat.le_of_ble_eq_true rfl) ?_
  intro p e s m below meth c ls hE hW hl
  obtain ⟨hx, hb, hr, hml, hown, hts, hlk, hK⟩ := hE
  have hA : ∀ q : Nat, s.heap.size ≤ q → Aw ad ns s.heap.size q := fun q h => Or.inr h
  have hl : lv_has ls 7 [(0, .ref (ad t i 0)), (1, .int a1)] := hl
  unfold f11_candidate at hf
  have J156 : ∀ (w1 : Int32) (g : Sg) (H : Heap) (locs : List Loc) (ls : Array Slot), f11_candidate_j156 w1 g = some m2 → Wl D cy ad ns (Aw ad ns s.heap.size) s.heap (uI M t i g) H locs → lv_has ls 7 [(0, .ref (ad t i 0)), (1, .int w1)] → W p l e { frames := 4, cells := 0, slots := 0, locals := 96 } s m ([.ref (ad t i 0), .int a1] : List Value).toArray below meth c H locs 0 0 (QV below D cy ad ns [.ref (ad t i 0), .int a1] s (uI M t i m2)) (F0 m 156 ls []) := by
    intro w1 g H locs ls hf hW hl
    unfold f11_candidate_j156 at hf
    refine lv_aload_n hx hb dX11_candidate_156 rfl (lv_at hl 0 rfl) ?_
    refine lv_iconst (v := 1) hx hb dX11_candidate_157 (by decide) ?_
    refine lv_iload_n hx hb dX11_candidate_158 rfl (lv_at hl 1 rfl) ?_
    obtain ⟨g113, hc112, hf⟩ := bd_some hf
    have hC114 := f11_append_ok l D cy ad ns M t i hI g (1 : Int32) w1 g113 hc112
    refine x_vv (n := 2) (As := [.int (1 : Int32), .int w1]) (rest := []) hx hb hml hts hown hK hW hA hC114 (hI.2 0 (by decide)) uI_o (hI.1 0 _) rfl rfl t_863 t_865 p_36 t_14 t_866 rfl (by decide +kernel) rfl rfl ⟨Nat.le_of_ble_eq_true rfl, Nat.le_of_ble_eq_true rfl⟩ hl.1 rfl (lv_room (Nat.le_of_ble_eq_true rfl)) dX11_candidate_159 ⟨(Nat.le_of_ble_eq_true rfl), (Nat.le_of_ble_eq_true rfl)⟩ (fun H locs hW => ?_)
    exact x_vret hx hb hr hlk hK hW (congrArg (fun q => (uI M t i q)) (Option.some.inj hf)) dX11_candidate_162
  refine lv_aload_n hx hb dX11_candidate_0 rfl (lv_at hl 0 rfl) ?_
  refine x_get hx hb hts hown hK hW (hI.2 0 (by decide)) uI_o (hI.1 0 _) rfl inX11 1 (by decide) t_741 rfl dX11_candidate_1 ?_
  refine lv_aload_n hx hb dX11_candidate_4 rfl (lv_at hl 0 rfl) ?_
  refine x_get hx hb hts hown hK hW (hI.2 0 (by decide)) uI_o (hI.1 0 _) rfl inX11 2 (by decide) t_742 rfl dX11_candidate_5 ?_
  refine lv_sipush (v := 1393) hx hb dX11_candidate_8 (by decide) ?_
  obtain ⟨hi1, hf⟩ := rd_some hf
  refine x_iald hx hb hK hW (hI.2 1 (by decide)) uI_o (hI.1 1 _) hi1 dX11_candidate_11 ?_
  generalize g 1 ((1393 : Int32)).toNatClampNeg = v2 at hf ⊢
  refine lv_isub hx hb dX11_candidate_12 ?_
  refine lv_istore_n (lv' := [(2, .int ((g 0 1) - v2)), (0, .ref (ad t i 0)), (1, .int a1)]) hx hb dX11_candidate_13 rfl hl (by decide) rfl (fun ls hl => ?_)
  refine lv_aload_n hx hb dX11_candidate_14 rfl (lv_at hl 1 rfl) ?_
  refine x_get hx hb hts hown hK hW (hI.2 0 (by decide)) uI_o (hI.1 0 _) rfl inX11 2 (by decide) t_742 rfl dX11_candidate_15 ?_
  refine lv_sipush (v := 990) hx hb dX11_candidate_18 (by decide) ?_
  refine lv_iload_n hx hb dX11_candidate_21 rfl (lv_at hl 2 rfl) ?_
  refine lv_iadd hx hb dX11_candidate_22 ?_
  obtain ⟨hi3, hf⟩ := rd_some hf
  refine x_iald hx hb hK hW (hI.2 1 (by decide)) uI_o (hI.1 1 _) hi3 dX11_candidate_23 ?_
  generalize g 1 (((990 : Int32) + a1)).toNatClampNeg = v4 at hf ⊢
  refine lv_istore_n (lv' := [(3, .int v4), (2, .int ((g 0 1) - v2)), (0, .ref (ad t i 0)), (1, .int a1)]) hx hb dX11_candidate_24 rfl hl (by decide) rfl (fun ls hl => ?_)
  refine lv_iload_n hx hb dX11_candidate_25 rfl (lv_at hl 0 rfl) ?_
  refine lv_iload_n hx hb dX11_candidate_26 rfl (lv_at hl 1 rfl) ?_
  refine lv_icmp_le (tgt := 43) hx hb dX11_candidate_27 (by decide) (fun c5 => ?_) (fun c5 => ?_)
  · replace hf := (if_pos c5).symm.trans hf
    refine lv_aload_n hx hb dX11_candidate_43 rfl (lv_at hl 2 rfl) ?_
    refine x_get hx hb hts hown hK hW (hI.2 0 (by decide)) uI_o (hI.1 0 _) rfl inX11 2 (by decide) t_742 rfl dX11_candidate_44 ?_
    refine lv_sipush (v := 603) hx hb dX11_candidate_47 (by decide) ?_
    obtain ⟨hi6, hf⟩ := rd_some hf
    refine x_iald hx hb hK hW (hI.2 1 (by decide)) uI_o (hI.1 1 _) hi6 dX11_candidate_50 ?_
    generalize g 1 ((603 : Int32)).toNatClampNeg = v7 at hf ⊢
    refine lv_iconst (v := 1) hx hb dX11_candidate_51 (by decide) ?_
    refine lv_icmp_ne (tgt := 72) hx hb dX11_candidate_52 (by decide) (fun c8 => ?_) (fun c8 => ?_)
    · replace hf := (if_neg c8).symm.trans hf
      have L72 : ∀ (k : Nat) (w1 : Int32) (w2 : Int32) (w3 : Int32) (g : Sg) (H : Heap) (locs : List Loc) (ls : Array Slot), f11_candidate_l72 k w1 w2 w3 g = some m2 → Wl D cy ad ns (Aw ad ns s.heap.size) s.heap (uI M t i g) H locs → lv_has ls 7 [(0, .ref (ad t i 0)), (1, .int w1), (2, .int w2), (3, .int w3)] → W p l e { frames := 4, cells := 0, slots := 0, locals := 96 } s m ([.ref (ad t i 0), .int a1] : List Value).toArray below meth c H locs 0 0 (QV below D cy ad ns [.ref (ad t i 0), .int a1] s (uI M t i m2)) (F0 m 72 ls []) := by
        intro k
        induction k with
        | zero => intro w1 w2 w3 g H locs ls hf; exact absurd hf (by simp [f11_candidate_l72])
        | succ k72 ih72 =>
          intro w1 w2 w3 g H locs ls hf hW hl
          have hf : f11_candidate_b72 (f11_candidate_l72 k72) w1 w2 w3 g = some m2 := hf
          unfold f11_candidate_b72 at hf
          have J144 : ∀ (w1 : Int32) (w2 : Int32) (w3 : Int32) (w4 : Int32) (g : Sg) (H : Heap) (locs : List Loc) (ls : Array Slot), f11_candidate_j144 (f11_candidate_l72 k72) w1 w2 w3 w4 g = some m2 → Wl D cy ad ns (Aw ad ns s.heap.size) s.heap (uI M t i g) H locs → lv_has ls 7 [(0, .ref (ad t i 0)), (1, .int w1), (2, .int w2), (3, .int w3), (4, .int w4)] → W p l e { frames := 4, cells := 0, slots := 0, locals := 96 } s m ([.ref (ad t i 0), .int a1] : List Value).toArray below meth c H locs 0 0 (QV below D cy ad ns [.ref (ad t i 0), .int a1] s (uI M t i m2)) (F0 m 144 ls []) := by
            intro w1 w2 w3 w4 g H locs ls hf hW hl
            unfold f11_candidate_j144 at hf
            refine lv_aload_n hx hb dX11_candidate_144 rfl (lv_at hl 0 rfl) ?_
            refine lv_iload hx hb dX11_candidate_145 (lv_at hl 4 rfl) ?_
            refine lv_iconst (v := 0) hx hb dX11_candidate_147 (by decide) ?_
            obtain ⟨r53, g52, hc51, hf⟩ := b2_some hf
            have hC54 := f11_take_ok l D cy ad ns M t i hI g w4 (0 : Int32) r53 g52 hc51
            refine x_vi (n := 2) (As := [.int w4, .int (0 : Int32)]) (rest := []) hx hb hml hts hown hK hW hA hC54 (hI.2 0 (by decide)) uI_o (hI.1 0 _) rfl rfl t_859 t_861 p_35 t_14 t_862 rfl (by decide +kernel) rfl rfl ⟨Nat.le_of_ble_eq_true rfl, Nat.le_of_ble_eq_true rfl⟩ hl.1 rfl (lv_room (Nat.le_of_ble_eq_true rfl)) dX11_candidate_148 ⟨(Nat.le_of_ble_eq_true rfl), (Nat.le_of_ble_eq_true rfl)⟩ (fun H locs hW => ?_)
            refine lv_istore (lv' := [(6, .int r53), (0, .ref (ad t i 0)), (1, .int w1), (2, .int w2), (3, .int w3), (4, .int w4)]) hx hb dX11_candidate_151 hl (by decide) rfl (fun ls hl => ?_)
            refine lv_goto (tgt := 72) hx hb dX11_candidate_153 (by decide) ?_
            exact ih72 _ _ _ _ _ _ _ hf hW (lv_sub hl [1, 2, 3, 4] rfl)
          refine lv_aload_n hx hb dX11_candidate_72 rfl (lv_at hl 0 rfl) ?_
          obtain ⟨r10, hc9, hf⟩ := bd_some hf
          have hC11 := f11_inMain_ok l D cy ad ns M t i hI g r10 hc9
          refine x_vi (n := 0) (As := []) (rest := []) hx hb hml hts hown hK hW hA hC11 (hI.2 0 (by decide)) uI_o (hI.1 0 _) rfl rfl t_879 t_881 p_40 t_14 t_882 rfl (by decide +kernel) rfl rfl ⟨Nat.le_of_ble_eq_true rfl, Nat.le_of_ble_eq_true rfl⟩ hl.1 rfl (lv_room (Nat.le_of_ble_eq_true rfl)) dX11_candidate_73 ⟨(Nat.le_of_ble_eq_true rfl), (Nat.le_of_ble_eq_true rfl)⟩ (fun H locs hW => ?_)
          refine lv_iload_n hx hb dX11_candidate_76 rfl (lv_at hl 3 rfl) ?_
          refine lv_iadd hx hb dX11_candidate_77 ?_
          refine lv_iload_n hx hb dX11_candidate_78 rfl (lv_at hl 2 rfl) ?_
          refine lv_icmp_le (tgt := 156) hx hb dX11_candidate_79 (by decide) (fun c12 => ?_) (fun c12 => ?_)
          · replace hf := (if_pos c12).symm.trans hf
            exact J156 _ _ _ _ _ hf hW (lv_sub hl [0, 1] rfl)
          · replace hf := (if_neg c12).symm.trans hf
            refine lv_aload_n hx hb dX11_candidate_82 rfl (lv_at hl 0 rfl) ?_
            refine lv_iconst (v := 1) hx hb dX11_candidate_83 (by decide) ?_
            obtain ⟨r14, hc13, hf⟩ := bd_some hf
            have hC15 := f11_length_ok l D cy ad ns M t i hI g (1 : Int32) r14 hc13
            refine x_vi (n := 1) (As := [.int (1 : Int32)]) (rest := []) hx hb hml hts hown hK hW hA hC15 (hI.2 0 (by decide)) uI_o (hI.1 0 _) rfl rfl t_827 t_829 p_28 t_14 t_830 rfl (by decide +kernel) rfl rfl ⟨Nat.le_of_ble_eq_true rfl, Nat.le_of_ble_eq_true rfl⟩ hl.1 rfl (lv_room (Nat.le_of_ble_eq_true rfl)) dX11_candidate_84 ⟨(Nat.le_of_ble_eq_true rfl), (Nat.le_of_ble_eq_true rfl)⟩ (fun H locs hW => ?_)
            refine lv_if_le (tgt := 94) hx hb dX11_candidate_87 (by decide) (fun c16 => ?_) (fun c16 => ?_)
            · replace hf := (if_pos c16).symm.trans hf
              refine lv_iconst (v := 2) hx hb dX11_candidate_94 (by decide) ?_
              refine lv_istore (lv' := [(4, .int (2 : Int32)), (0, .ref (ad t i 0)), (1, .int w1), (2, .int w2), (3, .int w3)]) hx hb dX11_candidate_95 hl (by decide) rfl (fun ls hl => ?_)
              refine lv_aload_n hx hb dX11_candidate_97 rfl (lv_at hl 1 rfl) ?_
              refine lv_iload hx hb dX11_candidate_98 (lv_at hl 0 rfl) ?_
              refine lv_iconst (v := 0) hx hb dX11_candidate_100 (by decide) ?_
              obtain ⟨r18, hc17, hf⟩ := bd_some hf
              have hC19 := f11_keyAt_ok l D cy ad ns M t i hI g (2 : Int32) (0 : Int32) r18 hc17
              refine x_vi (n := 2) (As := [.int (2 : Int32), .int (0 : Int32)]) (rest := []) hx hb hml hts hown hK hW hA hC19 (hI.2 0 (by decide)) uI_o (hI.1 0 _) rfl rfl t_831 t_833 p_29 t_14 t_834 rfl (by decide +kernel) rfl rfl ⟨Nat.le_of_ble_eq_true rfl, Nat.le_of_ble_eq_true rfl⟩ hl.1 rfl (lv_room (Nat.le_of_ble_eq_true rfl)) dX11_candidate_101 ⟨(Nat.le_of_ble_eq_true rfl), (Nat.le_of_ble_eq_true rfl)⟩ (fun H locs hW => ?_)
              refine lv_istore (lv' := [(5, .int r18), (4, .int (2 : Int32)), (0, .ref (ad t i 0)), (1, .int w1), (2, .int w2), (3, .int w3)]) hx hb dX11_candidate_104 hl (by decide) rfl (fun ls hl => ?_)
              refine lv_aload_n hx hb dX11_candidate_106 rfl (lv_at hl 2 rfl) ?_
              refine x_get hx hb hts hown hK hW (hI.2 0 (by decide)) uI_o (hI.1 0 _) rfl inX11 2 (by decide) t_742 rfl dX11_candidate_107 ?_
              refine lv_sipush (v := 1399) hx hb dX11_candidate_110 (by decide) ?_
              refine lv_dup2_11 hx hb dX11_candidate_113 rfl rfl ?_
              obtain ⟨hi20, hf⟩ := rd_some hf
              refine x_iald hx hb hK hW (hI.2 1 (by decide)) uI_o (hI.1 1 _) hi20 dX11_candidate_114 ?_
              generalize g 1 ((1399 : Int32)).toNatClampNeg = v21 at hf ⊢
              refine lv_iconst (v := 1) hx hb dX11_candidate_115 (by decide) ?_
              refine lv_iadd hx hb dX11_candidate_116 ?_
              obtain ⟨hi22, hf⟩ := wr_some hf
              refine x_iast hx hb hK hW (hI.2 1 (by decide)) uI_o (fun _ => (hI.1 1 _)) hi22 uC_leaf dX11_candidate_117 (fun H locs hW => ?_)
              generalize (va_up g 1 (upd (g 1) ((1399 : Int32)).toNatClampNeg (v21 + (1 : Int32)))) = g23 at hf hW
              refine lv_aload_n hx hb dX11_candidate_118 rfl (lv_at hl 2 rfl) ?_
              refine x_get hx hb hts hown hK hW (hI.2 0 (by decide)) uI_o (hI.1 0 _) rfl inX11 2 (by decide) t_742 rfl dX11_candidate_119 ?_
              refine lv_sipush (v := 603) hx hb dX11_candidate_122 (by decide) ?_
              obtain ⟨hi24, hf⟩ := rd_some hf
              refine x_iald hx hb hK hW (hI.2 1 (by decide)) uI_o (hI.1 1 _) hi24 dX11_candidate_125 ?_
              generalize g23 1 ((603 : Int32)).toNatClampNeg = v25 at hf ⊢
              refine lv_if_ne (tgt := 144) hx hb dX11_candidate_126 (by decide) (fun c26 => ?_) (fun c26 => ?_)
              · replace hf := (if_neg c26).symm.trans hf
                exact J144 _ _ _ _ _ _ _ _ hf hW (lv_sub hl [2, 3, 4, 5, 1] rfl)
              · replace hf := (if_pos c26).symm.trans hf
                refine lv_aload_n hx hb dX11_candidate_129 rfl (lv_at hl 2 rfl) ?_
                refine lv_iload_n hx hb dX11_candidate_130 rfl (lv_at hl 3 rfl) ?_
                obtain ⟨r28, hc27, hf⟩ := bd_some hf
                have hC29 := f11_estimated_ok l D cy ad ns M t i hI g23 w1 r28 hc27
                refine x_vi (n := 1) (As := [.int w1]) (rest := []) hx hb hml hts hown hK hW hA hC29 (hI.2 0 (by decide)) uI_o (hI.1 0 _) rfl rfl t_887 t_889 p_42 t_14 t_890 rfl (by decide +kernel) rfl rfl ⟨Nat.le_of_ble_eq_true rfl, Nat.le_of_ble_eq_true rfl⟩ hl.1 rfl (lv_room (Nat.le_of_ble_eq_true rfl)) dX11_candidate_131 ⟨(Nat.le_of_ble_eq_true rfl), (Nat.le_of_ble_eq_true rfl)⟩ (fun H locs hW => ?_)
                refine lv_aload_n hx hb dX11_candidate_134 rfl (lv_at hl 2 rfl) ?_
                refine lv_iload hx hb dX11_candidate_135 (lv_at hl 0 rfl) ?_
                obtain ⟨r31, hc30, hf⟩ := bd_some hf
                have hC32 := f11_estimated_ok l D cy ad ns M t i hI g23 r18 r31 hc30
                refine x_vi (n := 1) (As := [.int r18]) (rest := [.int r28]) hx hb hml hts hown hK hW hA hC32 (hI.2 0 (by decide)) uI_o (hI.1 0 _) rfl rfl t_887 t_889 p_42 t_14 t_890 rfl (by decide +kernel) rfl rfl ⟨Nat.le_of_ble_eq_true rfl, Nat.le_of_ble_eq_true rfl⟩ hl.1 rfl (lv_room (Nat.le_of_ble_eq_true rfl)) dX11_candidate_137 ⟨(Nat.le_of_ble_eq_true rfl), (Nat.le_of_ble_eq_true rfl)⟩ (fun H locs hW => ?_)
                refine lv_icmp_gt (tgt := 144) hx hb dX11_candidate_140 (by decide) (fun c33 => ?_) (fun c33 => ?_)
                · replace hf := (if_pos c33).symm.trans hf
                  exact J144 _ _ _ _ _ _ _ _ hf hW (lv_sub hl [2, 3, 4, 5, 1] rfl)
                · replace hf := (if_neg c33).symm.trans hf
                  exact x_vret hx hb hr hlk hK hW (congrArg (fun q => (uI M t i q)) (Option.some.inj hf)) dX11_candidate_143
            · replace hf := (if_neg c16).symm.trans hf
              refine lv_iconst (v := 1) hx hb dX11_candidate_90 (by decide) ?_
              refine lv_goto (tgt := 95) hx hb dX11_candidate_91 (by decide) ?_
              refine lv_istore (lv' := [(4, .int (1 : Int32)), (0, .ref (ad t i 0)), (1, .int w1), (2, .int w2), (3, .int w3)]) hx hb dX11_candidate_95 hl (by decide) rfl (fun ls hl => ?_)
              refine lv_aload_n hx hb dX11_candidate_97 rfl (lv_at hl 1 rfl) ?_
              refine lv_iload hx hb dX11_candidate_98 (lv_at hl 0 rfl) ?_
              refine lv_iconst (v := 0) hx hb dX11_candidate_100 (by decide) ?_
              obtain ⟨r35, hc34, hf⟩ := bd_some hf
              have hC36 := f11_keyAt_ok l D cy ad ns M t i hI g (1 : Int32) (0 : Int32) r35 hc34
              refine x_vi (n := 2) (As := [.int (1 : Int32), .int (0 : Int32)]) (rest := []) hx hb hml hts hown hK hW hA hC36 (hI.2 0 (by decide)) uI_o (hI.1 0 _) rfl rfl t_831 t_833 p_29 t_14 t_834 rfl (by decide +kernel) rfl rfl ⟨Nat.le_of_ble_eq_true rfl, Nat.le_of_ble_eq_true rfl⟩ hl.1 rfl (lv_room (Nat.le_of_ble_eq_true rfl)) dX11_candidate_101 ⟨(Nat.le_of_ble_eq_true rfl), (Nat.le_of_ble_eq_true rfl)⟩ (fun H locs hW => ?_)
              refine lv_istore (lv' := [(5, .int r35), (4, .int (1 : Int32)), (0, .ref (ad t i 0)), (1, .int w1), (2, .int w2), (3, .int w3)]) hx hb dX11_candidate_104 hl (by decide) rfl (fun ls hl => ?_)
              refine lv_aload_n hx hb dX11_candidate_106 rfl (lv_at hl 2 rfl) ?_
              refine x_get hx hb hts hown hK hW (hI.2 0 (by decide)) uI_o (hI.1 0 _) rfl inX11 2 (by decide) t_742 rfl dX11_candidate_107 ?_
              refine lv_sipush (v := 1399) hx hb dX11_candidate_110 (by decide) ?_
              refine lv_dup2_11 hx hb dX11_candidate_113 rfl rfl ?_
              obtain ⟨hi37, hf⟩ := rd_some hf
              refine x_iald hx hb hK hW (hI.2 1 (by decide)) uI_o (hI.1 1 _) hi37 dX11_candidate_114 ?_
              generalize g 1 ((1399 : Int32)).toNatClampNeg = v38 at hf ⊢
              refine lv_iconst (v := 1) hx hb dX11_candidate_115 (by decide) ?_
              refine lv_iadd hx hb dX11_candidate_116 ?_
              obtain ⟨hi39, hf⟩ := wr_some hf
              refine x_iast hx hb hK hW (hI.2 1 (by decide)) uI_o (fun _ => (hI.1 1 _)) hi39 uC_leaf dX11_candidate_117 (fun H locs hW => ?_)
              generalize (va_up g 1 (upd (g 1) ((1399 : Int32)).toNatClampNeg (v38 + (1 : Int32)))) = g40 at hf hW
              refine lv_aload_n hx hb dX11_candidate_118 rfl (lv_at hl 2 rfl) ?_
              refine x_get hx hb hts hown hK hW (hI.2 0 (by decide)) uI_o (hI.1 0 _) rfl inX11 2 (by decide) t_742 rfl dX11_candidate_119 ?_
              refine lv_sipush (v := 603) hx hb dX11_candidate_122 (by decide) ?_
              obtain ⟨hi41, hf⟩ := rd_some hf
              refine x_iald hx hb hK hW (hI.2 1 (by decide)) uI_o (hI.1 1 _) hi41 dX11_candidate_125 ?_
              generalize g40 1 ((603 : Int32)).toNatClampNeg = v42 at hf ⊢
              refine lv_if_ne (tgt := 144) hx hb dX11_candidate_126 (by decide) (fun c43 => ?_) (fun c43 => ?_)
              · replace hf := (if_neg c43).symm.trans hf
                exact J144 _ _ _ _ _ _ _ _ hf hW (lv_sub hl [2, 3, 4, 5, 1] rfl)
              · replace hf := (if_pos c43).symm.trans hf
                refine lv_aload_n hx hb dX11_candidate_129 rfl (lv_at hl 2 rfl) ?_
                refine lv_iload_n hx hb dX11_candidate_130 rfl (lv_at hl 3 rfl) ?_
                obtain ⟨r45, hc44, hf⟩ := bd_some hf
                have hC46 := f11_estimated_ok l D cy ad ns M t i hI g40 w1 r45 hc44
                refine x_vi (n := 1) (As := [.int w1]) (rest := []) hx hb hml hts hown hK hW hA hC46 (hI.2 0 (by decide)) uI_o (hI.1 0 _) rfl rfl t_887 t_889 p_42 t_14 t_890 rfl (by decide +kernel) rfl rfl ⟨Nat.le_of_ble_eq_true rfl, Nat.le_of_ble_eq_true rfl⟩ hl.1 rfl (lv_room (Nat.le_of_ble_eq_true rfl)) dX11_candidate_131 ⟨(Nat.le_of_ble_eq_true rfl), (Nat.le_of_ble_eq_true rfl)⟩ (fun H locs hW => ?_)
                refine lv_aload_n hx hb dX11_candidate_134 rfl (lv_at hl 2 rfl) ?_
                refine lv_iload hx hb dX11_candidate_135 (lv_at hl 0 rfl) ?_
                obtain ⟨r48, hc47, hf⟩ := bd_some hf
                have hC49 := f11_estimated_ok l D cy ad ns M t i hI g40 r35 r48 hc47
                refine x_vi (n := 1) (As := [.int r35]) (rest := [.int r45]) hx hb hml hts hown hK hW hA hC49 (hI.2 0 (by decide)) uI_o (hI.1 0 _) rfl rfl t_887 t_889 p_42 t_14 t_890 rfl (by decide +kernel) rfl rfl ⟨Nat.le_of_ble_eq_true rfl, Nat.le_of_ble_eq_true rfl⟩ hl.1 rfl (lv_room (Nat.le_of_ble_eq_true rfl)) dX11_candidate_137 ⟨(Nat.le_of_ble_eq_true rfl), (Nat.le_of_ble_eq_true rfl)⟩ (fun H locs hW => ?_)
                refine lv_icmp_gt (tgt := 144) hx hb dX11_candidate_140 (by decide) (fun c50 => ?_) (fun c50 => ?_)
                · replace hf := (if_pos c50).symm.trans hf
                  exact J144 _ _ _ _ _ _ _ _ hf hW (lv_sub hl [2, 3, 4, 5, 1] rfl)
                · replace hf := (if_neg c50).symm.trans hf
                  exact x_vret hx hb hr hlk hK hW (congrArg (fun q => (uI M t i q)) (Option.some.inj hf)) dX11_candidate_143
      exact L72 NF _ _ _ _ _ _ _ hf hW (lv_sub hl [2, 3, 1, 0] rfl)
    · replace hf := (if_pos c8).symm.trans hf
      refine lv_aload_n hx hb dX11_candidate_55 rfl (lv_at hl 2 rfl) ?_
      obtain ⟨r56, hc55, hf⟩ := bd_some hf
      have hC57 := f11_inMain_ok l D cy ad ns M t i hI g r56 hc55
      refine x_vi (n := 0) (As := []) (rest := []) hx hb hml hts hown hK hW hA hC57 (hI.2 0 (by decide)) uI_o (hI.1 0 _) rfl rfl t_879 t_881 p_40 t_14 t_882 rfl (by decide +kernel) rfl rfl ⟨Nat.le_of_ble_eq_true rfl, Nat.le_of_ble_eq_true rfl⟩ hl.1 rfl (lv_room (Nat.le_of_ble_eq_true rfl)) dX11_candidate_56 ⟨(Nat.le_of_ble_eq_true rfl), (Nat.le_of_ble_eq_true rfl)⟩ (fun H locs hW => ?_)
      refine lv_iload_n hx hb dX11_candidate_59 rfl (lv_at hl 0 rfl) ?_
      refine lv_iadd hx hb dX11_candidate_60 ?_
      refine lv_iload_n hx hb dX11_candidate_61 rfl (lv_at hl 1 rfl) ?_
      refine lv_icmp_le (tgt := 72) hx hb dX11_candidate_62 (by decide) (fun c58 => ?_) (fun c58 => ?_)
      · replace hf := (if_pos c58).symm.trans hf
        have L72 : ∀ (k : Nat) (w1 : Int32) (w2 : Int32) (w3 : Int32) (g : Sg) (H : Heap) (locs : List Loc) (ls : Array Slot), f11_candidate_l72 k w1 w2 w3 g = some m2 → Wl D cy ad ns (Aw ad ns s.heap.size) s.heap (uI M t i g) H locs → lv_has ls 7 [(0, .ref (ad t i 0)), (1, .int w1), (2, .int w2), (3, .int w3)] → W p l e { frames := 4, cells := 0, slots := 0, locals := 96 } s m ([.ref (ad t i 0), .int a1] : List Value).toArray below meth c H locs 0 0 (QV below D cy ad ns [.ref (ad t i 0), .int a1] s (uI M t i m2)) (F0 m 72 ls []) := by
          intro k
          induction k with
          | zero => intro w1 w2 w3 g H locs ls hf; exact absurd hf (by simp [f11_candidate_l72])
          | succ k72 ih72 =>
            intro w1 w2 w3 g H locs ls hf hW hl
            have hf : f11_candidate_b72 (f11_candidate_l72 k72) w1 w2 w3 g = some m2 := hf
            unfold f11_candidate_b72 at hf
            have J144 : ∀ (w1 : Int32) (w2 : Int32) (w3 : Int32) (w4 : Int32) (g : Sg) (H : Heap) (locs : List Loc) (ls : Array Slot), f11_candidate_j144 (f11_candidate_l72 k72) w1 w2 w3 w4 g = some m2 → Wl D cy ad ns (Aw ad ns s.heap.size) s.heap (uI M t i g) H locs → lv_has ls 7 [(0, .ref (ad t i 0)), (1, .int w1), (2, .int w2), (3, .int w3), (4, .int w4)] → W p l e { frames := 4, cells := 0, slots := 0, locals := 96 } s m ([.ref (ad t i 0), .int a1] : List Value).toArray below meth c H locs 0 0 (QV below D cy ad ns [.ref (ad t i 0), .int a1] s (uI M t i m2)) (F0 m 144 ls []) := by
              intro w1 w2 w3 w4 g H locs ls hf hW hl
              unfold f11_candidate_j144 at hf
              refine lv_aload_n hx hb dX11_candidate_144 rfl (lv_at hl 0 rfl) ?_
              refine lv_iload hx hb dX11_candidate_145 (lv_at hl 4 rfl) ?_
              refine lv_iconst (v := 0) hx hb dX11_candidate_147 (by decide) ?_
              obtain ⟨r103, g102, hc101, hf⟩ := b2_some hf
              have hC104 := f11_take_ok l D cy ad ns M t i hI g w4 (0 : Int32) r103 g102 hc101
              refine x_vi (n := 2) (As := [.int w4, .int (0 : Int32)]) (rest := []) hx hb hml hts hown hK hW hA hC104 (hI.2 0 (by decide)) uI_o (hI.1 0 _) rfl rfl t_859 t_861 p_35 t_14 t_862 rfl (by decide +kernel) rfl rfl ⟨Nat.le_of_ble_eq_true rfl, Nat.le_of_ble_eq_true rfl⟩ hl.1 rfl (lv_room (Nat.le_of_ble_eq_true rfl)) dX11_candidate_148 ⟨(Nat.le_of_ble_eq_true rfl), (Nat.le_of_ble_eq_true rfl)⟩ (fun H locs hW => ?_)
              refine lv_istore (lv' := [(6, .int r103), (0, .ref (ad t i 0)), (1, .int w1), (2, .int w2), (3, .int w3), (4, .int w4)]) hx hb dX11_candidate_151 hl (by decide) rfl (fun ls hl => ?_)
              refine lv_goto (tgt := 72) hx hb dX11_candidate_153 (by decide) ?_
              exact ih72 _ _ _ _ _ _ _ hf hW (lv_sub hl [1, 2, 3, 4] rfl)
            refine lv_aload_n hx hb dX11_candidate_72 rfl (lv_at hl 0 rfl) ?_
            obtain ⟨r60, hc59, hf⟩ := bd_some hf
            have hC61 := f11_inMain_ok l D cy ad ns M t i hI g r60 hc59
            refine x_vi (n := 0) (As := []) (rest := []) hx hb hml hts hown hK hW hA hC61 (hI.2 0 (by decide)) uI_o (hI.1 0 _) rfl rfl t_879 t_881 p_40 t_14 t_882 rfl (by decide +kernel) rfl rfl ⟨Nat.le_of_ble_eq_true rfl, Nat.le_of_ble_eq_true rfl⟩ hl.1 rfl (lv_room (Nat.le_of_ble_eq_true rfl)) dX11_candidate_73 ⟨(Nat.le_of_ble_eq_true rfl), (Nat.le_of_ble_eq_true rfl)⟩ (fun H locs hW => ?_)
            refine lv_iload_n hx hb dX11_candidate_76 rfl (lv_at hl 3 rfl) ?_
            refine lv_iadd hx hb dX11_candidate_77 ?_
            refine lv_iload_n hx hb dX11_candidate_78 rfl (lv_at hl 2 rfl) ?_
            refine lv_icmp_le (tgt := 156) hx hb dX11_candidate_79 (by decide) (fun c62 => ?_) (fun c62 => ?_)
            · replace hf := (if_pos c62).symm.trans hf
              exact J156 _ _ _ _ _ hf hW (lv_sub hl [0, 1] rfl)
            · replace hf := (if_neg c62).symm.trans hf
              refine lv_aload_n hx hb dX11_candidate_82 rfl (lv_at hl 0 rfl) ?_
              refine lv_iconst (v := 1) hx hb dX11_candidate_83 (by decide) ?_
              obtain ⟨r64, hc63, hf⟩ := bd_some hf
              have hC65 := f11_length_ok l D cy ad ns M t i hI g (1 : Int32) r64 hc63
              refine x_vi (n := 1) (As := [.int (1 : Int32)]) (rest := []) hx hb hml hts hown hK hW hA hC65 (hI.2 0 (by decide)) uI_o (hI.1 0 _) rfl rfl t_827 t_829 p_28 t_14 t_830 rfl (by decide +kernel) rfl rfl ⟨Nat.le_of_ble_eq_true rfl, Nat.le_of_ble_eq_true rfl⟩ hl.1 rfl (lv_room (Nat.le_of_ble_eq_true rfl)) dX11_candidate_84 ⟨(Nat.le_of_ble_eq_true rfl), (Nat.le_of_ble_eq_true rfl)⟩ (fun H locs hW => ?_)
              refine lv_if_le (tgt := 94) hx hb dX11_candidate_87 (by decide) (fun c66 => ?_) (fun c66 => ?_)
              · replace hf := (if_pos c66).symm.trans hf
                refine lv_iconst (v := 2) hx hb dX11_candidate_94 (by decide) ?_
                refine lv_istore (lv' := [(4, .int (2 : Int32)), (0, .ref (ad t i 0)), (1, .int w1), (2, .int w2), (3, .int w3)]) hx hb dX11_candidate_95 hl (by decide) rfl (fun ls hl => ?_)
                refine lv_aload_n hx hb dX11_candidate_97 rfl (lv_at hl 1 rfl) ?_
                refine lv_iload hx hb dX11_candidate_98 (lv_at hl 0 rfl) ?_
                refine lv_iconst (v := 0) hx hb dX11_candidate_100 (by decide) ?_
                obtain ⟨r68, hc67, hf⟩ := bd_some hf
                have hC69 := f11_keyAt_ok l D cy ad ns M t i hI g (2 : Int32) (0 : Int32) r68 hc67
                refine x_vi (n := 2) (As := [.int (2 : Int32), .int (0 : Int32)]) (rest := []) hx hb hml hts hown hK hW hA hC69 (hI.2 0 (by decide)) uI_o (hI.1 0 _) rfl rfl t_831 t_833 p_29 t_14 t_834 rfl (by decide +kernel) rfl rfl ⟨Nat.le_of_ble_eq_true rfl, Nat.le_of_ble_eq_true rfl⟩ hl.1 rfl (lv_room (Nat.le_of_ble_eq_true rfl)) dX11_candidate_101 ⟨(Nat.le_of_ble_eq_true rfl), (Nat.le_of_ble_eq_true rfl)⟩ (fun H locs hW => ?_)
                refine lv_istore (lv' := [(5, .int r68), (4, .int (2 : Int32)), (0, .ref (ad t i 0)), (1, .int w1), (2, .int w2), (3, .int w3)]) hx hb dX11_candidate_104 hl (by decide) rfl (fun ls hl => ?_)
                refine lv_aload_n hx hb dX11_candidate_106 rfl (lv_at hl 2 rfl) ?_
                refine x_get hx hb hts hown hK hW (hI.2 0 (by decide)) uI_o (hI.1 0 _) rfl inX11 2 (by decide) t_742 rfl dX11_candidate_107 ?_
                refine lv_sipush (v := 1399) hx hb dX11_candidate_110 (by decide) ?_
                refine lv_dup2_11 hx hb dX11_candidate_113 rfl rfl ?_
                obtain ⟨hi70, hf⟩ := rd_some hf
                refine x_iald hx hb hK hW (hI.2 1 (by decide)) uI_o (hI.1 1 _) hi70 dX11_candidate_114 ?_
                generalize g 1 ((1399 : Int32)).toNatClampNeg = v71 at hf ⊢
                refine lv_iconst (v := 1) hx hb dX11_candidate_115 (by decide) ?_
                refine lv_iadd hx hb dX11_candidate_116 ?_
                obtain ⟨hi72, hf⟩ := wr_some hf
                refine x_iast hx hb hK hW (hI.2 1 (by decide)) uI_o (fun _ => (hI.1 1 _)) hi72 uC_leaf dX11_candidate_117 (fun H locs hW => ?_)
                generalize (va_up g 1 (upd (g 1) ((1399 : Int32)).toNatClampNeg (v71 + (1 : Int32)))) = g73 at hf hW
                refine lv_aload_n hx hb dX11_candidate_118 rfl (lv_at hl 2 rfl) ?_
                refine x_get hx hb hts hown hK hW (hI.2 0 (by decide)) uI_o (hI.1 0 _) rfl inX11 2 (by decide) t_742 rfl dX11_candidate_119 ?_
                refine lv_sipush (v := 603) hx hb dX11_candidate_122 (by decide) ?_
                obtain ⟨hi74, hf⟩ := rd_some hf
                refine x_iald hx hb hK hW (hI.2 1 (by decide)) uI_o (hI.1 1 _) hi74 dX11_candidate_125 ?_
                generalize g73 1 ((603 : Int32)).toNatClampNeg = v75 at hf ⊢
                refine lv_if_ne (tgt := 144) hx hb dX11_candidate_126 (by decide) (fun c76 => ?_) (fun c76 => ?_)
                · replace hf := (if_neg c76).symm.trans hf
                  exact J144 _ _ _ _ _ _ _ _ hf hW (lv_sub hl [2, 3, 4, 5, 1] rfl)
                · replace hf := (if_pos c76).symm.trans hf
                  refine lv_aload_n hx hb dX11_candidate_129 rfl (lv_at hl 2 rfl) ?_
                  refine lv_iload_n hx hb dX11_candidate_130 rfl (lv_at hl 3 rfl) ?_
                  obtain ⟨r78, hc77, hf⟩ := bd_some hf
                  have hC79 := f11_estimated_ok l D cy ad ns M t i hI g73 w1 r78 hc77
                  refine x_vi (n := 1) (As := [.int w1]) (rest := []) hx hb hml hts hown hK hW hA hC79 (hI.2 0 (by decide)) uI_o (hI.1 0 _) rfl rfl t_887 t_889 p_42 t_14 t_890 rfl (by decide +kernel) rfl rfl ⟨Nat.le_of_ble_eq_true rfl, Nat.le_of_ble_eq_true rfl⟩ hl.1 rfl (lv_room (Nat.le_of_ble_eq_true rfl)) dX11_candidate_131 ⟨(Nat.le_of_ble_eq_true rfl), (Nat.le_of_ble_eq_true rfl)⟩ (fun H locs hW => ?_)
                  refine lv_aload_n hx hb dX11_candidate_134 rfl (lv_at hl 2 rfl) ?_
                  refine lv_iload hx hb dX11_candidate_135 (lv_at hl 0 rfl) ?_
                  obtain ⟨r81, hc80, hf⟩ := bd_some hf
                  have hC82 := f11_estimated_ok l D cy ad ns M t i hI g73 r68 r81 hc80
                  refine x_vi (n := 1) (As := [.int r68]) (rest := [.int r78]) hx hb hml hts hown hK hW hA hC82 (hI.2 0 (by decide)) uI_o (hI.1 0 _) rfl rfl t_887 t_889 p_42 t_14 t_890 rfl (by decide +kernel) rfl rfl ⟨Nat.le_of_ble_eq_true rfl, Nat.le_of_ble_eq_true rfl⟩ hl.1 rfl (lv_room (Nat.le_of_ble_eq_true rfl)) dX11_candidate_137 ⟨(Nat.le_of_ble_eq_true rfl), (Nat.le_of_ble_eq_true rfl)⟩ (fun H locs hW => ?_)
                  refine lv_icmp_gt (tgt := 144) hx hb dX11_candidate_140 (by decide) (fun c83 => ?_) (fun c83 => ?_)
                  · replace hf := (if_pos c83).symm.trans hf
                    exact J144 _ _ _ _ _ _ _ _ hf hW (lv_sub hl [2, 3, 4, 5, 1] rfl)
                  · replace hf := (if_neg c83).symm.trans hf
                    exact x_vret hx hb hr hlk hK hW (congrArg (fun q => (uI M t i q)) (Option.some.inj hf)) dX11_candidate_143
              · replace hf := (if_neg c66).symm.trans hf
                refine lv_iconst (v := 1) hx hb dX11_candidate_90 (by decide) ?_
                refine lv_goto (tgt := 95) hx hb dX11_candidate_91 (by decide) ?_
                refine lv_istore (lv' := [(4, .int (1 : Int32)), (0, .ref (ad t i 0)), (1, .int w1), (2, .int w2), (3, .int w3)]) hx hb dX11_candidate_95 hl (by decide) rfl (fun ls hl => ?_)
                refine lv_aload_n hx hb dX11_candidate_97 rfl (lv_at hl 1 rfl) ?_
                refine lv_iload hx hb dX11_candidate_98 (lv_at hl 0 rfl) ?_
                refine lv_iconst (v := 0) hx hb dX11_candidate_100 (by decide) ?_
                obtain ⟨r85, hc84, hf⟩ := bd_some hf
                have hC86 := f11_keyAt_ok l D cy ad ns M t i hI g (1 : Int32) (0 : Int32) r85 hc84
                refine x_vi (n := 2) (As := [.int (1 : Int32), .int (0 : Int32)]) (rest := []) hx hb hml hts hown hK hW hA hC86 (hI.2 0 (by decide)) uI_o (hI.1 0 _) rfl rfl t_831 t_833 p_29 t_14 t_834 rfl (by decide +kernel) rfl rfl ⟨Nat.le_of_ble_eq_true rfl, Nat.le_of_ble_eq_true rfl⟩ hl.1 rfl (lv_room (Nat.le_of_ble_eq_true rfl)) dX11_candidate_101 ⟨(Nat.le_of_ble_eq_true rfl), (Nat.le_of_ble_eq_true rfl)⟩ (fun H locs hW => ?_)
                refine lv_istore (lv' := [(5, .int r85), (4, .int (1 : Int32)), (0, .ref (ad t i 0)), (1, .int w1), (2, .int w2), (3, .int w3)]) hx hb dX11_candidate_104 hl (by decide) rfl (fun ls hl => ?_)
                refine lv_aload_n hx hb dX11_candidate_106 rfl (lv_at hl 2 rfl) ?_
                refine x_get hx hb hts hown hK hW (hI.2 0 (by decide)) uI_o (hI.1 0 _) rfl inX11 2 (by decide) t_742 rfl dX11_candidate_107 ?_
                refine lv_sipush (v := 1399) hx hb dX11_candidate_110 (by decide) ?_
                refine lv_dup2_11 hx hb dX11_candidate_113 rfl rfl ?_
                obtain ⟨hi87, hf⟩ := rd_some hf
                refine x_iald hx hb hK hW (hI.2 1 (by decide)) uI_o (hI.1 1 _) hi87 dX11_candidate_114 ?_
                generalize g 1 ((1399 : Int32)).toNatClampNeg = v88 at hf ⊢
                refine lv_iconst (v := 1) hx hb dX11_candidate_115 (by decide) ?_
                refine lv_iadd hx hb dX11_candidate_116 ?_
                obtain ⟨hi89, hf⟩ := wr_some hf
                refine x_iast hx hb hK hW (hI.2 1 (by decide)) uI_o (fun _ => (hI.1 1 _)) hi89 uC_leaf dX11_candidate_117 (fun H locs hW => ?_)
                generalize (va_up g 1 (upd (g 1) ((1399 : Int32)).toNatClampNeg (v88 + (1 : Int32)))) = g90 at hf hW
                refine lv_aload_n hx hb dX11_candidate_118 rfl (lv_at hl 2 rfl) ?_
                refine x_get hx hb hts hown hK hW (hI.2 0 (by decide)) uI_o (hI.1 0 _) rfl inX11 2 (by decide) t_742 rfl dX11_candidate_119 ?_
                refine lv_sipush (v := 603) hx hb dX11_candidate_122 (by decide) ?_
                obtain ⟨hi91, hf⟩ := rd_some hf
                refine x_iald hx hb hK hW (hI.2 1 (by decide)) uI_o (hI.1 1 _) hi91 dX11_candidate_125 ?_
                generalize g90 1 ((603 : Int32)).toNatClampNeg = v92 at hf ⊢
                refine lv_if_ne (tgt := 144) hx hb dX11_candidate_126 (by decide) (fun c93 => ?_) (fun c93 => ?_)
                · replace hf := (if_neg c93).symm.trans hf
                  exact J144 _ _ _ _ _ _ _ _ hf hW (lv_sub hl [2, 3, 4, 5, 1] rfl)
                · replace hf := (if_pos c93).symm.trans hf
                  refine lv_aload_n hx hb dX11_candidate_129 rfl (lv_at hl 2 rfl) ?_
                  refine lv_iload_n hx hb dX11_candidate_130 rfl (lv_at hl 3 rfl) ?_
                  obtain ⟨r95, hc94, hf⟩ := bd_some hf
                  have hC96 := f11_estimated_ok l D cy ad ns M t i hI g90 w1 r95 hc94
                  refine x_vi (n := 1) (As := [.int w1]) (rest := []) hx hb hml hts hown hK hW hA hC96 (hI.2 0 (by decide)) uI_o (hI.1 0 _) rfl rfl t_887 t_889 p_42 t_14 t_890 rfl (by decide +kernel) rfl rfl ⟨Nat.le_of_ble_eq_true rfl, Nat.le_of_ble_eq_true rfl⟩ hl.1 rfl (lv_room (Nat.le_of_ble_eq_true rfl)) dX11_candidate_131 ⟨(Nat.le_of_ble_eq_true rfl), (Nat.le_of_ble_eq_true rfl)⟩ (fun H locs hW => ?_)
                  refine lv_aload_n hx hb dX11_candidate_134 rfl (lv_at hl 2 rfl) ?_
                  refine lv_iload hx hb dX11_candidate_135 (lv_at hl 0 rfl) ?_
                  obtain ⟨r98, hc97, hf⟩ := bd_some hf
                  have hC99 := f11_estimated_ok l D cy ad ns M t i hI g90 r85 r98 hc97
                  refine x_vi (n := 1) (As := [.int r85]) (rest := [.int r95]) hx hb hml hts hown hK hW hA hC99 (hI.2 0 (by decide)) uI_o (hI.1 0 _) rfl rfl t_887 t_889 p_42 t_14 t_890 rfl (by decide +kernel) rfl rfl ⟨Nat.le_of_ble_eq_true rfl, Nat.le_of_ble_eq_true rfl⟩ hl.1 rfl (lv_room (Nat.le_of_ble_eq_true rfl)) dX11_candidate_137 ⟨(Nat.le_of_ble_eq_true rfl), (Nat.le_of_ble_eq_true rfl)⟩ (fun H locs hW => ?_)
                  refine lv_icmp_gt (tgt := 144) hx hb dX11_candidate_140 (by decide) (fun c100 => ?_) (fun c100 => ?_)
                  · replace hf := (if_pos c100).symm.trans hf
                    exact J144 _ _ _ _ _ _ _ _ hf hW (lv_sub hl [2, 3, 4, 5, 1] rfl)
                  · replace hf := (if_neg c100).symm.trans hf
                    exact x_vret hx hb hr hlk hK hW (congrArg (fun q => (uI M t i q)) (Option.some.inj hf)) dX11_candidate_143
        exact L72 NF _ _ _ _ _ _ _ hf hW (lv_sub hl [2, 3, 1, 0] rfl)
      · replace hf := (if_neg c58).symm.trans hf
        refine lv_aload_n hx hb dX11_candidate_65 rfl (lv_at hl 2 rfl) ?_
        refine lv_iload_n hx hb dX11_candidate_66 rfl (lv_at hl 3 rfl) ?_
        refine lv_iload_n hx hb dX11_candidate_67 rfl (lv_at hl 1 rfl) ?_
        obtain ⟨g106, hc105, hf⟩ := bd_some hf
        have hC107 := f11_together_ok l D cy ad ns M t i hI g a1 ((g 0 1) - v2) g106 hc105
        refine x_vv (n := 2) (As := [.int a1, .int ((g 0 1) - v2)]) (rest := []) hx hb hml hts hown hK hW hA hC107 (hI.2 0 (by decide)) uI_o (hI.1 0 _) rfl rfl t_883 t_885 p_41 t_14 t_886 rfl (by decide +kernel) rfl rfl ⟨Nat.le_of_ble_eq_true rfl, Nat.le_of_ble_eq_true rfl⟩ hl.1 rfl (lv_room (Nat.le_of_ble_eq_true rfl)) dX11_candidate_68 ⟨(Nat.le_of_ble_eq_true rfl), (Nat.le_of_ble_eq_true rfl)⟩ (fun H locs hW => ?_)
        exact x_vret hx hb hr hlk hK hW (congrArg (fun q => (uI M t i q)) (Option.some.inj hf)) dX11_candidate_71
  · replace hf := (if_neg c5).symm.trans hf
    refine lv_aload_n hx hb dX11_candidate_30 rfl (lv_at hl 2 rfl) ?_
    refine x_get hx hb hts hown hK hW (hI.2 0 (by decide)) uI_o (hI.1 0 _) rfl inX11 2 (by decide) t_742 rfl dX11_candidate_31 ?_
    refine lv_sipush (v := 1399) hx hb dX11_candidate_34 (by decide) ?_
    refine lv_dup2_11 hx hb dX11_candidate_37 rfl rfl ?_
    obtain ⟨hi108, hf⟩ := rd_some hf
    refine x_iald hx hb hK hW (hI.2 1 (by decide)) uI_o (hI.1 1 _) hi108 dX11_candidate_38 ?_
    generalize g 1 ((1399 : Int32)).toNatClampNeg = v109 at hf ⊢
    refine lv_iconst (v := 1) hx hb dX11_candidate_39 (by decide) ?_
    refine lv_iadd hx hb dX11_candidate_40 ?_
    obtain ⟨hi110, hf⟩ := wr_some hf
    refine x_iast hx hb hK hW (hI.2 1 (by decide)) uI_o (fun _ => (hI.1 1 _)) hi110 uC_leaf dX11_candidate_41 (fun H locs hW => ?_)
    generalize (va_up g 1 (upd (g 1) ((1399 : Int32)).toNatClampNeg (v109 + (1 : Int32)))) = g111 at hf hW
    exact x_vret hx hb hr hlk hK hW (congrArg (fun q => (uI M t i q)) (Option.some.inj hf)) dX11_candidate_42
def f11_overflow_b0 (rec0 : Sg → Option Sg) (g : Sg) : Option Sg :=
  ((f11_units g (0 : Int32)).bind (fun r2 => (rd 1805 (g 1) (1393 : Int32) (fun v5 => (if r2 ≤ v5 then (some g) else (b2 (f11_take (0 : Int32) (0 : Int32) g) (fun r9 g8 => ((f11_candidate r9 g8).bind (fun g12 => (rec0 g12))))))))))
def f11_overflow_l0 : Nat → Sg → Option Sg
  | 0 => fun _ => none
  | k + 1 => f11_overflow_b0 (f11_overflow_l0 k)
def f11_overflow (g : Sg) : Option Sg :=
  (f11_overflow_l0 NF g)
set_option maxHeartbeats 4000000 in
set_option maxRecDepth 100000 in
theorem f11_overflow_ok (l : Launch) (D : va_G) (cy : Nat → ClassId) (ad : Nat → Nat → Nat → Nat) (ns : List (Nat × Nat × Nat)) (M : Me) (t i : Nat) (hI : IsModel cy ad ns t i) (g : Sg) (m2 : Sg)  (hf : f11_overflow g = some m2) : Cv l yX11_overflow (.code yX11_overflow cX11_overflow 1 none :: tk_tb) { frames := 5, cells := 0, slots := 0, locals := 122 } D cy ad ns [.ref (ad t i 0)] (uI M t i g) (uI M t i m2) := by
  refine Cv.of (by decide) (Nat.le_of_ble_eq_true rfl) ?_
  intro p e s m below meth c ls hE hW hl
  obtain ⟨hx, hb, hr, hml, hown, hts, hlk, hK⟩ := hE
  have hA : ∀ q : Nat, s.heap.size ≤ q → Aw ad ns s.heap.size q := fun q h => Or.inr h
  have hl : lv_has ls 1 [(0, .ref (ad t i 0))] := hl
  unfold f11_overflow at hf
  have L0 : ∀ (k : Nat) (g : Sg) (H : Heap) (locs : List Loc) (ls : Array Slot), f11_overflow_l0 k g = some m2 → Wl D cy ad ns (Aw ad ns s.heap.size) s.heap (uI M t i g) H locs → lv_has ls 1 [(0, .ref (ad t i 0))] → W p l e { frames := 5, cells := 0, slots := 0, locals := 122 } s m ([.ref (ad t i 0)] : List Value).toArray below meth c H locs 0 0 (QV below D cy ad ns [.ref (ad t i 0)] s (uI M t i m2)) (F0 m 0 ls []) := by
    intro k
    induction k with
    | zero => intro g H locs ls hf; exact absurd hf (by simp [f11_overflow_l0])
    | succ k0 ih0 =>
      intro g H locs ls hf hW hl
      have hf : f11_overflow_b0 (f11_overflow_l0 k0) g = some m2 := hf
      unfold f11_overflow_b0 at hf
      refine lv_aload_n hx hb dX11_overflow_0 rfl (lv_at hl 0 rfl) ?_
      refine lv_iconst (v := 0) hx hb dX11_overflow_1 (by decide) ?_
      obtain ⟨r2, hc1, hf⟩ := bd_some hf
      have hC3 := f11_units_ok l D cy ad ns M t i hI g (0 : Int32) r2 hc1
      refine x_vi (n := 1) (As := [.int (0 : Int32)]) (rest := []) hx hb hml hts hown hK hW hA hC3 (hI.2 0 (by decide)) uI_o (hI.1 0 _) rfl rfl t_871 t_873 p_38 t_14 t_874 rfl (by decide +kernel) rfl rfl ⟨Nat.le_of_ble_eq_true rfl, Nat.le_of_ble_eq_true rfl⟩ hl.1 rfl (lv_room (Nat.le_of_ble_eq_true rfl)) dX11_overflow_2 ⟨(Nat.le_of_ble_eq_true rfl), (Nat.le_of_ble_eq_true rfl)⟩ (fun H locs hW => ?_)
      refine lv_aload_n hx hb dX11_overflow_5 rfl (lv_at hl 0 rfl) ?_
      refine x_get hx hb hts hown hK hW (hI.2 0 (by decide)) uI_o (hI.1 0 _) rfl inX11 2 (by decide) t_742 rfl dX11_overflow_6 ?_
      refine lv_sipush (v := 1393) hx hb dX11_overflow_9 (by decide) ?_
      obtain ⟨hi4, hf⟩ := rd_some hf
      refine x_iald hx hb hK hW (hI.2 1 (by decide)) uI_o (hI.1 1 _) hi4 dX11_overflow_12 ?_
      generalize g 1 ((1393 : Int32)).toNatClampNeg = v5 at hf ⊢
      refine lv_icmp_le (tgt := 29) hx hb dX11_overflow_13 (by decide) (fun c6 => ?_) (fun c6 => ?_)
      · replace hf := (if_pos c6).symm.trans hf
        exact x_vret hx hb hr hlk hK hW (congrArg (fun q => (uI M t i q)) (Option.some.inj hf)) dX11_overflow_29
      · replace hf := (if_neg c6).symm.trans hf
        refine lv_aload_n hx hb dX11_overflow_16 rfl (lv_at hl 0 rfl) ?_
        refine lv_aload_n hx hb dX11_overflow_17 rfl (lv_at hl 0 rfl) ?_
        refine lv_iconst (v := 0) hx hb dX11_overflow_18 (by decide) ?_
        refine lv_iconst (v := 0) hx hb dX11_overflow_19 (by decide) ?_
        obtain ⟨r9, g8, hc7, hf⟩ := b2_some hf
        have hC10 := f11_take_ok l D cy ad ns M t i hI g (0 : Int32) (0 : Int32) r9 g8 hc7
        refine x_vi (n := 2) (As := [.int (0 : Int32), .int (0 : Int32)]) (rest := [.ref (ad t i 0)]) hx hb hml hts hown hK hW hA hC10 (hI.2 0 (by decide)) uI_o (hI.1 0 _) rfl rfl t_859 t_861 p_35 t_14 t_862 rfl (by decide +kernel) rfl rfl ⟨Nat.le_of_ble_eq_true rfl, Nat.le_of_ble_eq_true rfl⟩ hl.1 rfl (lv_room (Nat.le_of_ble_eq_true rfl)) dX11_overflow_20 ⟨(Nat.le_of_ble_eq_true rfl), (Nat.le_of_ble_eq_true rfl)⟩ (fun H locs hW => ?_)
        obtain ⟨g12, hc11, hf⟩ := bd_some hf
        have hC13 := f11_candidate_ok l D cy ad ns M t i hI g8 r9 g12 hc11
        refine x_vv (n := 1) (As := [.int r9]) (rest := []) hx hb hml hts hown hK hW hA hC13 (hI.2 0 (by decide)) uI_o (hI.1 0 _) rfl rfl t_875 t_877 p_39 t_14 t_878 rfl (by decide +kernel) rfl rfl ⟨Nat.le_of_ble_eq_true rfl, Nat.le_of_ble_eq_true rfl⟩ hl.1 rfl (lv_room (Nat.le_of_ble_eq_true rfl)) dX11_overflow_23 ⟨(Nat.le_of_ble_eq_true rfl), (Nat.le_of_ble_eq_true rfl)⟩ (fun H locs hW => ?_)
        refine lv_goto (tgt := 0) hx hb dX11_overflow_26 (by decide) ?_
        exact ih0 _ _ _ _ hf hW (lv_sub hl [0] rfl)
  exact L0 NF _ _ _ _ hf hW (lv_sub hl [0] rfl)
def f11_climb_j150 (g : Sg) : Option Sg :=
  ((f11_overflow g).bind (fun g55 => (some g55)))
def f11_climb_b104 (rec104 : Sg → Option Sg) (g : Sg) : Option Sg :=
  ((f11_inMain g).bind (fun r31 => (rd 1805 (g 1) (1393 : Int32) (fun v34 => (if r31 ≤ ((g 0 1) - v34) then (f11_climb_j150 g) else ((f11_length g (1 : Int32)).bind (fun r37 => (if r37 ≤ 0 then (b2 (f11_take (2 : Int32) (0 : Int32) g) (fun r42 g41 => ((f11_append (0 : Int32) r42 g41).bind (fun g45 => (rec104 g45))))) else (b2 (f11_take (1 : Int32) (0 : Int32) g) (fun r49 g48 => ((f11_append (0 : Int32) r49 g48).bind (fun g52 => (rec104 g52)))))))))))))
def f11_climb_l104 : Nat → Sg → Option Sg
  | 0 => fun _ => none
  | k + 1 => f11_climb_b104 (f11_climb_l104 k)
def f11_climb_j36 (g : Sg) : Option Sg :=
  (rd 1805 (g 1) (1401 : Int32) (fun v11 => (wr 1805 (1403 : Int32) (va_up g 1 (upd (g 1) ((1403 : Int32)).toNatClampNeg v11)) (fun g13 => (wr 1805 (1402 : Int32) (va_up g13 1 (upd (g13 1) ((1402 : Int32)).toNatClampNeg (0 : Int32))) (fun g15 => (wr 1805 (1401 : Int32) (va_up g15 1 (upd (g15 1) ((1401 : Int32)).toNatClampNeg (0 : Int32))) (fun g17 => (rd 1805 (g17 1) (1393 : Int32) (fun v19 => (rd 1805 (g17 1) (1400 : Int32) (fun v21 => (rd 1805 (g17 1) (604 : Int32) (fun v23 => ((f11_setWindow (v19 + (v21 * v23)) g17).bind (fun g25 => ((f11_settle g25).bind (fun g28 => (f11_climb_l104 NF g28)))))))))))))))))))
def f11_climb (g : Sg) : Option Sg :=
  (rd 1805 (g 1) (1401 : Int32) (fun v2 => (rd 1805 (g 1) (1403 : Int32) (fun v4 => (if v4 ≤ v2 then (f11_climb_j36 g) else (rd 1805 (g 1) (1400 : Int32) (fun v7 => (wr 1805 (1400 : Int32) (va_up g 1 (upd (g 1) ((1400 : Int32)).toNatClampNeg (-v7))) (fun g9 => (f11_climb_j36 g9))))))))))
set_option maxHeartbeats 4000000 in
set_option maxRecDepth 100000 in
theorem f11_climb_ok (l : Launch) (D : va_G) (cy : Nat → ClassId) (ad : Nat → Nat → Nat → Nat) (ns : List (Nat × Nat × Nat)) (M : Me) (t i : Nat) (hI : IsModel cy ad ns t i) (g : Sg) (m2 : Sg)  (hf : f11_climb g = some m2) : Cv l yX11_climb (.code yX11_climb cX11_climb 1 none :: tk_tb) { frames := 6, cells := 0, slots := 0, locals := 142 } D cy ad ns [.ref (ad t i 0)] (uI M t i g) (uI M t i m2) := by
  refine Cv.of (by decide) (Nat.le_of_ble_eq_true rfl) ?_
  intro p e s m below meth c ls hE hW hl
  obtain ⟨hx, hb, hr, hml, hown, hts, hlk, hK⟩ := hE
  have hA : ∀ q : Nat, s.heap.size ≤ q → Aw ad ns s.heap.size q := fun q h => Or.inr h
  have hl : lv_has ls 1 [(0, .ref (ad t i 0))] := hl
  unfold f11_climb at hf
  have J150 : ∀ (g : Sg) (H : Heap) (locs : List Loc) (ls : Array Slot), f11_climb_j150 g = some m2 → Wl D cy ad ns (Aw ad ns s.heap.size) s.heap (uI M t i g) H locs → lv_has ls 1 [(0, .ref (ad t i 0))] → W p l e { frames := 6, cells := 0, slots := 0, locals := 142 } s m ([.ref (ad t i 0)] : List Value).toArray below meth c H locs 0 0 (QV below D cy ad ns [.ref (ad t i 0)] s (uI M t i m2)) (F0 m 150 ls []) := by
    intro g H locs ls hf hW hl
    unfold f11_climb_j150 at hf
    refine lv_aload_n hx hb dX11_climb_150 rfl (lv_at hl 0 rfl) ?_
    obtain ⟨g55, hc54, hf⟩ := bd_some hf
    have hC56 := f11_overflow_ok l D cy ad ns M t i hI g g55 hc54
    refine x_vv (n := 0) (As := []) (rest := []) hx hb hml hts hown hK hW hA hC56 (hI.2 0 (by decide)) uI_o (hI.1 0 _) rfl rfl t_891 t_893 p_43 t_14 t_894 rfl (by decide +kernel) rfl rfl ⟨Nat.le_of_ble_eq_true rfl, Nat.le_of_ble_eq_true rfl⟩ hl.1 rfl (lv_room (Nat.le_of_ble_eq_true rfl)) dX11_climb_151 ⟨(Nat.le_of_ble_eq_true rfl), (Nat.le_of_ble_eq_true rfl)⟩ (fun H locs hW => ?_)
    exact x_vret hx hb hr hlk hK hW (congrArg (fun q => (uI M t i q)) (Option.some.inj hf)) dX11_climb_154
  have J36 : ∀ (g : Sg) (H : Heap) (locs : List Loc) (ls : Array Slot), f11_climb_j36 g = some m2 → Wl D cy ad ns (Aw ad ns s.heap.size) s.heap (uI M t i g) H locs → lv_has ls 1 [(0, .ref (ad t i 0))] → W p l e { frames := 6, cells := 0, slots := 0, locals := 142 } s m ([.ref (ad t i 0)] : List Value).toArray below meth c H locs 0 0 (QV below D cy ad ns [.ref (ad t i 0)] s (uI M t i m2)) (F0 m 36 ls []) := by
    intro g H locs ls hf hW hl
    unfold f11_climb_j36 at hf
    refine lv_aload_n hx hb dX11_climb_36 rfl (lv_at hl 0 rfl) ?_
    refine x_get hx hb hts hown hK hW (hI.2 0 (by decide)) uI_o (hI.1 0 _) rfl inX11 2 (by decide) t_742 rfl dX11_climb_37 ?_
    refine lv_sipush (v := 1403) hx hb dX11_climb_40 (by decide) ?_
    refine lv_aload_n hx hb dX11_climb_43 rfl (lv_at hl 0 rfl) ?_
    refine x_get hx hb hts hown hK hW (hI.2 0 (by decide)) uI_o (hI.1 0 _) rfl inX11 2 (by decide) t_742 rfl dX11_climb_44 ?_
    refine lv_sipush (v := 1401) hx hb dX11_climb_47 (by decide) ?_
    obtain ⟨hi10, hf⟩ := rd_some hf
    refine x_iald hx hb hK hW (hI.2 1 (by decide)) uI_o (hI.1 1 _) hi10 dX11_climb_50 ?_
    generalize g 1 ((1401 : Int32)).toNatClampNeg = v11 at hf ⊢
    obtain ⟨hi12, hf⟩ := wr_some hf
    refine x_iast hx hb hK hW (hI.2 1 (by decide)) uI_o (fun _ => (hI.1 1 _)) hi12 uC_leaf dX11_climb_51 (fun H locs hW => ?_)
    generalize (va_up g 1 (upd (g 1) ((1403 : Int32)).toNatClampNeg v11)) = g13 at hf hW
    refine lv_aload_n hx hb dX11_climb_52 rfl (lv_at hl 0 rfl) ?_
    refine x_get hx hb hts hown hK hW (hI.2 0 (by decide)) uI_o (hI.1 0 _) rfl inX11 2 (by decide) t_742 rfl dX11_climb_53 ?_
    refine lv_sipush (v := 1402) hx hb dX11_climb_56 (by decide) ?_
    refine lv_iconst (v := 0) hx hb dX11_climb_59 (by decide) ?_
    obtain ⟨hi14, hf⟩ := wr_some hf
    refine x_iast hx hb hK hW (hI.2 1 (by decide)) uI_o (fun _ => (hI.1 1 _)) hi14 uC_leaf dX11_climb_60 (fun H locs hW => ?_)
    generalize (va_up g13 1 (upd (g13 1) ((1402 : Int32)).toNatClampNeg (0 : Int32))) = g15 at hf hW
    refine lv_aload_n hx hb dX11_climb_61 rfl (lv_at hl 0 rfl) ?_
    refine x_get hx hb hts hown hK hW (hI.2 0 (by decide)) uI_o (hI.1 0 _) rfl inX11 2 (by decide) t_742 rfl dX11_climb_62 ?_
    refine lv_sipush (v := 1401) hx hb dX11_climb_65 (by decide) ?_
    refine lv_iconst (v := 0) hx hb dX11_climb_68 (by decide) ?_
    obtain ⟨hi16, hf⟩ := wr_some hf
    refine x_iast hx hb hK hW (hI.2 1 (by decide)) uI_o (fun _ => (hI.1 1 _)) hi16 uC_leaf dX11_climb_69 (fun H locs hW => ?_)
    generalize (va_up g15 1 (upd (g15 1) ((1401 : Int32)).toNatClampNeg (0 : Int32))) = g17 at hf hW
    refine lv_aload_n hx hb dX11_climb_70 rfl (lv_at hl 0 rfl) ?_
    refine lv_aload_n hx hb dX11_climb_71 rfl (lv_at hl 0 rfl) ?_
    refine x_get hx hb hts hown hK hW (hI.2 0 (by decide)) uI_o (hI.1 0 _) rfl inX11 2 (by decide) t_742 rfl dX11_climb_72 ?_
    refine lv_sipush (v := 1393) hx hb dX11_climb_75 (by decide) ?_
    obtain ⟨hi18, hf⟩ := rd_some hf
    refine x_iald hx hb hK hW (hI.2 1 (by decide)) uI_o (hI.1 1 _) hi18 dX11_climb_78 ?_
    generalize g17 1 ((1393 : Int32)).toNatClampNeg = v19 at hf ⊢
    refine lv_aload_n hx hb dX11_climb_79 rfl (lv_at hl 0 rfl) ?_
    refine x_get hx hb hts hown hK hW (hI.2 0 (by decide)) uI_o (hI.1 0 _) rfl inX11 2 (by decide) t_742 rfl dX11_climb_80 ?_
    refine lv_sipush (v := 1400) hx hb dX11_climb_83 (by decide) ?_
    obtain ⟨hi20, hf⟩ := rd_some hf
    refine x_iald hx hb hK hW (hI.2 1 (by decide)) uI_o (hI.1 1 _) hi20 dX11_climb_86 ?_
    generalize g17 1 ((1400 : Int32)).toNatClampNeg = v21 at hf ⊢
    refine lv_aload_n hx hb dX11_climb_87 rfl (lv_at hl 0 rfl) ?_
    refine x_get hx hb hts hown hK hW (hI.2 0 (by decide)) uI_o (hI.1 0 _) rfl inX11 2 (by decide) t_742 rfl dX11_climb_88 ?_
    refine lv_sipush (v := 604) hx hb dX11_climb_91 (by decide) ?_
    obtain ⟨hi22, hf⟩ := rd_some hf
    refine x_iald hx hb hK hW (hI.2 1 (by decide)) uI_o (hI.1 1 _) hi22 dX11_climb_94 ?_
    generalize g17 1 ((604 : Int32)).toNatClampNeg = v23 at hf ⊢
    refine lv_imul hx hb dX11_climb_95 ?_
    refine lv_iadd hx hb dX11_climb_96 ?_
    obtain ⟨g25, hc24, hf⟩ := bd_some hf
    have hC26 := f11_setWindow_ok l D cy ad ns M t i hI g17 (v19 + (v21 * v23)) g25 hc24
    refine x_vv (n := 1) (As := [.int (v19 + (v21 * v23))]) (rest := []) hx hb hml hts hown hK hW hA hC26 (hI.2 0 (by decide)) uI_o (hI.1 0 _) rfl rfl t_736 t_738 p_24 t_14 t_739 rfl (by decide +kernel) rfl rfl ⟨Nat.le_of_ble_eq_true rfl, Nat.le_of_ble_eq_true rfl⟩ hl.1 rfl (lv_room (Nat.le_of_ble_eq_true rfl)) dX11_climb_97 ⟨(Nat.le_of_ble_eq_true rfl), (Nat.le_of_ble_eq_true rfl)⟩ (fun H locs hW => ?_)
    refine lv_aload_n hx hb dX11_climb_100 rfl (lv_at hl 0 rfl) ?_
    obtain ⟨g28, hc27, hf⟩ := bd_some hf
    have hC29 := f11_settle_ok l D cy ad ns M t i hI g25 g28 hc27
    refine x_vv (n := 0) (As := []) (rest := []) hx hb hml hts hown hK hW hA hC29 (hI.2 0 (by decide)) uI_o (hI.1 0 _) rfl rfl t_867 t_869 p_37 t_14 t_870 rfl (by decide +kernel) rfl rfl ⟨Nat.le_of_ble_eq_true rfl, Nat.le_of_ble_eq_true rfl⟩ hl.1 rfl (lv_room (Nat.le_of_ble_eq_true rfl)) dX11_climb_101 ⟨(Nat.le_of_ble_eq_true rfl), (Nat.le_of_ble_eq_true rfl)⟩ (fun H locs hW => ?_)
    have L104 : ∀ (k : Nat) (g : Sg) (H : Heap) (locs : List Loc) (ls : Array Slot), f11_climb_l104 k g = some m2 → Wl D cy ad ns (Aw ad ns s.heap.size) s.heap (uI M t i g) H locs → lv_has ls 1 [(0, .ref (ad t i 0))] → W p l e { frames := 6, cells := 0, slots := 0, locals := 142 } s m ([.ref (ad t i 0)] : List Value).toArray below meth c H locs 0 0 (QV below D cy ad ns [.ref (ad t i 0)] s (uI M t i m2)) (F0 m 104 ls []) := by
      intro k
      induction k with
      | zero => intro g H locs ls hf; exact absurd hf (by simp [f11_climb_l104])
      | succ k104 ih104 =>
        intro g H locs ls hf hW hl
        have hf : f11_climb_b104 (f11_climb_l104 k104) g = some m2 := hf
        unfold f11_climb_b104 at hf
        refine lv_aload_n hx hb dX11_climb_104 rfl (lv_at hl 0 rfl) ?_
        obtain ⟨r31, hc30, hf⟩ := bd_some hf
        have hC32 := f11_inMain_ok l D cy ad ns M t i hI g r31 hc30
        refine x_vi (n := 0) (As := []) (rest := []) hx hb hml hts hown hK hW hA hC32 (hI.2 0 (by decide)) uI_o (hI.1 0 _) rfl rfl t_879 t_881 p_40 t_14 t_882 rfl (by decide +kernel) rfl rfl ⟨Nat.le_of_ble_eq_true rfl, Nat.le_of_ble_eq_true rfl⟩ hl.1 rfl (lv_room (Nat.le_of_ble_eq_true rfl)) dX11_climb_105 ⟨(Nat.le_of_ble_eq_true rfl), (Nat.le_of_ble_eq_true rfl)⟩ (fun H locs hW => ?_)
        refine lv_aload_n hx hb dX11_climb_108 rfl (lv_at hl 0 rfl) ?_
        refine x_get hx hb hts hown hK hW (hI.2 0 (by decide)) uI_o (hI.1 0 _) rfl inX11 1 (by decide) t_741 rfl dX11_climb_109 ?_
        refine lv_aload_n hx hb dX11_climb_112 rfl (lv_at hl 0 rfl) ?_
        refine x_get hx hb hts hown hK hW (hI.2 0 (by decide)) uI_o (hI.1 0 _) rfl inX11 2 (by decide) t_742 rfl dX11_climb_113 ?_
        refine lv_sipush (v := 1393) hx hb dX11_climb_116 (by decide) ?_
        obtain ⟨hi33, hf⟩ := rd_some hf
        refine x_iald hx hb hK hW (hI.2 1 (by decide)) uI_o (hI.1 1 _) hi33 dX11_climb_119 ?_
        generalize g 1 ((1393 : Int32)).toNatClampNeg = v34 at hf ⊢
        refine lv_isub hx hb dX11_climb_120 ?_
        refine lv_icmp_le (tgt := 150) hx hb dX11_climb_121 (by decide) (fun c35 => ?_) (fun c35 => ?_)
        · replace hf := (if_pos c35).symm.trans hf
          exact J150 _ _ _ _ hf hW (lv_sub hl [0] rfl)
        · replace hf := (if_neg c35).symm.trans hf
          refine lv_aload_n hx hb dX11_climb_124 rfl (lv_at hl 0 rfl) ?_
          refine lv_iconst (v := 0) hx hb dX11_climb_125 (by decide) ?_
          refine lv_aload_n hx hb dX11_climb_126 rfl (lv_at hl 0 rfl) ?_
          refine lv_aload_n hx hb dX11_climb_127 rfl (lv_at hl 0 rfl) ?_
          refine lv_iconst (v := 1) hx hb dX11_climb_128 (by decide) ?_
          obtain ⟨r37, hc36, hf⟩ := bd_some hf
          have hC38 := f11_length_ok l D cy ad ns M t i hI g (1 : Int32) r37 hc36
          refine x_vi (n := 1) (As := [.int (1 : Int32)]) (rest := [.ref (ad t i 0), .int (0 : Int32), .ref (ad t i 0)]) hx hb hml hts hown hK hW hA hC38 (hI.2 0 (by decide)) uI_o (hI.1 0 _) rfl rfl t_827 t_829 p_28 t_14 t_830 rfl (by decide +kernel) rfl rfl ⟨Nat.le_of_ble_eq_true rfl, Nat.le_of_ble_eq_true rfl⟩ hl.1 rfl (lv_room (Nat.le_of_ble_eq_true rfl)) dX11_climb_129 ⟨(Nat.le_of_ble_eq_true rfl), (Nat.le_of_ble_eq_true rfl)⟩ (fun H locs hW => ?_)
          refine lv_if_le (tgt := 139) hx hb dX11_climb_132 (by decide) (fun c39 => ?_) (fun c39 => ?_)
          · replace hf := (if_pos c39).symm.trans hf
            refine lv_iconst (v := 2) hx hb dX11_climb_139 (by decide) ?_
            refine lv_iconst (v := 0) hx hb dX11_climb_140 (by decide) ?_
            obtain ⟨r42, g41, hc40, hf⟩ := b2_some hf
            have hC43 := f11_take_ok l D cy ad ns M t i hI g (2 : Int32) (0 : Int32) r42 g41 hc40
            refine x_vi (n := 2) (As := [.int (2 : Int32), .int (0 : Int32)]) (rest := [.int (0 : Int32), .ref (ad t i 0)]) hx hb hml hts hown hK hW hA hC43 (hI.2 0 (by decide)) uI_o (hI.1 0 _) rfl rfl t_859 t_861 p_35 t_14 t_862 rfl (by decide +kernel) rfl rfl ⟨Nat.le_of_ble_eq_true rfl, Nat.le_of_ble_eq_true rfl⟩ hl.1 rfl (lv_room (Nat.le_of_ble_eq_true rfl)) dX11_climb_141 ⟨(Nat.le_of_ble_eq_true rfl), (Nat.le_of_ble_eq_true rfl)⟩ (fun H locs hW => ?_)
            obtain ⟨g45, hc44, hf⟩ := bd_some hf
            have hC46 := f11_append_ok l D cy ad ns M t i hI g41 (0 : Int32) r42 g45 hc44
            refine x_vv (n := 2) (As := [.int (0 : Int32), .int r42]) (rest := []) hx hb hml hts hown hK hW hA hC46 (hI.2 0 (by decide)) uI_o (hI.1 0 _) rfl rfl t_863 t_865 p_36 t_14 t_866 rfl (by decide +kernel) rfl rfl ⟨Nat.le_of_ble_eq_true rfl, Nat.le_of_ble_eq_true rfl⟩ hl.1 rfl (lv_room (Nat.le_of_ble_eq_true rfl)) dX11_climb_144 ⟨(Nat.le_of_ble_eq_true rfl), (Nat.le_of_ble_eq_true rfl)⟩ (fun H locs hW => ?_)
            refine lv_goto (tgt := 104) hx hb dX11_climb_147 (by decide) ?_
            exact ih104 _ _ _ _ hf hW (lv_sub hl [0] rfl)
          · replace hf := (if_neg c39).symm.trans hf
            refine lv_iconst (v := 1) hx hb dX11_climb_135 (by decide) ?_
            refine lv_goto (tgt := 140) hx hb dX11_climb_136 (by decide) ?_
            refine lv_iconst (v := 0) hx hb dX11_climb_140 (by decide) ?_
            obtain ⟨r49, g48, hc47, hf⟩ := b2_some hf
            have hC50 := f11_take_ok l D cy ad ns M t i hI g (1 : Int32) (0 : Int32) r49 g48 hc47
            refine x_vi (n := 2) (As := [.int (1 : Int32), .int (0 : Int32)]) (rest := [.int (0 : Int32), .ref (ad t i 0)]) hx hb hml hts hown hK hW hA hC50 (hI.2 0 (by decide)) uI_o (hI.1 0 _) rfl rfl t_859 t_861 p_35 t_14 t_862 rfl (by decide +kernel) rfl rfl ⟨Nat.le_of_ble_eq_true rfl, Nat.le_of_ble_eq_true rfl⟩ hl.1 rfl (lv_room (Nat.le_of_ble_eq_true rfl)) dX11_climb_141 ⟨(Nat.le_of_ble_eq_true rfl), (Nat.le_of_ble_eq_true rfl)⟩ (fun H locs hW => ?_)
            obtain ⟨g52, hc51, hf⟩ := bd_some hf
            have hC53 := f11_append_ok l D cy ad ns M t i hI g48 (0 : Int32) r49 g52 hc51
            refine x_vv (n := 2) (As := [.int (0 : Int32), .int r49]) (rest := []) hx hb hml hts hown hK hW hA hC53 (hI.2 0 (by decide)) uI_o (hI.1 0 _) rfl rfl t_863 t_865 p_36 t_14 t_866 rfl (by decide +kernel) rfl rfl ⟨Nat.le_of_ble_eq_true rfl, Nat.le_of_ble_eq_true rfl⟩ hl.1 rfl (lv_room (Nat.le_of_ble_eq_true rfl)) dX11_climb_144 ⟨(Nat.le_of_ble_eq_true rfl), (Nat.le_of_ble_eq_true rfl)⟩ (fun H locs hW => ?_)
            refine lv_goto (tgt := 104) hx hb dX11_climb_147 (by decide) ?_
            exact ih104 _ _ _ _ hf hW (lv_sub hl [0] rfl)
    exact L104 NF _ _ _ _ hf hW (lv_sub hl [0] rfl)
  refine lv_aload_n hx hb dX11_climb_0 rfl (lv_at hl 0 rfl) ?_
  refine x_get hx hb hts hown hK hW (hI.2 0 (by decide)) uI_o (hI.1 0 _) rfl inX11 2 (by decide) t_742 rfl dX11_climb_1 ?_
  refine lv_sipush (v := 1401) hx hb dX11_climb_4 (by decide) ?_
  obtain ⟨hi1, hf⟩ := rd_some hf
  refine x_iald hx hb hK hW (hI.2 1 (by decide)) uI_o (hI.1 1 _) hi1 dX11_climb_7 ?_
  generalize g 1 ((1401 : Int32)).toNatClampNeg = v2 at hf ⊢
  refine lv_aload_n hx hb dX11_climb_8 rfl (lv_at hl 0 rfl) ?_
  refine x_get hx hb hts hown hK hW (hI.2 0 (by decide)) uI_o (hI.1 0 _) rfl inX11 2 (by decide) t_742 rfl dX11_climb_9 ?_
  refine lv_sipush (v := 1403) hx hb dX11_climb_12 (by decide) ?_
  obtain ⟨hi3, hf⟩ := rd_some hf
  refine x_iald hx hb hK hW (hI.2 1 (by decide)) uI_o (hI.1 1 _) hi3 dX11_climb_15 ?_
  generalize g 1 ((1403 : Int32)).toNatClampNeg = v4 at hf ⊢
  refine lv_icmp_ge (tgt := 36) hx hb dX11_climb_16 (by decide) (fun c5 => ?_) (fun c5 => ?_)
  · replace hf := (if_pos c5).symm.trans hf
    exact J36 _ _ _ _ hf hW (lv_sub hl [0] rfl)
  · replace hf := (if_neg c5).symm.trans hf
    refine lv_aload_n hx hb dX11_climb_19 rfl (lv_at hl 0 rfl) ?_
    refine x_get hx hb hts hown hK hW (hI.2 0 (by decide)) uI_o (hI.1 0 _) rfl inX11 2 (by decide) t_742 rfl dX11_climb_20 ?_
    refine lv_sipush (v := 1400) hx hb dX11_climb_23 (by decide) ?_
    refine lv_aload_n hx hb dX11_climb_26 rfl (lv_at hl 0 rfl) ?_
    refine x_get hx hb hts hown hK hW (hI.2 0 (by decide)) uI_o (hI.1 0 _) rfl inX11 2 (by decide) t_742 rfl dX11_climb_27 ?_
    refine lv_sipush (v := 1400) hx hb dX11_climb_30 (by decide) ?_
    obtain ⟨hi6, hf⟩ := rd_some hf
    refine x_iald hx hb hK hW (hI.2 1 (by decide)) uI_o (hI.1 1 _) hi6 dX11_climb_33 ?_
    generalize g 1 ((1400 : Int32)).toNatClampNeg = v7 at hf ⊢
    refine lv_ineg hx hb dX11_climb_34 ?_
    obtain ⟨hi8, hf⟩ := wr_some hf
    refine x_iast hx hb hK hW (hI.2 1 (by decide)) uI_o (fun _ => (hI.1 1 _)) hi8 uC_leaf dX11_climb_35 (fun H locs hW => ?_)
    generalize (va_up g 1 (upd (g 1) ((1400 : Int32)).toNatClampNeg (-v7))) = g9 at hf hW
    exact J36 _ _ _ _ hf hW (lv_sub hl [0] rfl)
def f11_accessed_j295 (w1 : Int32) (w2 : Int32) (g : Sg) : Option (Int32 × Sg) :=
  (if w2 < 0 then ((f11_partOf g w1).bind (fun r134 => (if r134 < 0 then (some ((0 : Int32), g)) else (some ((1 : Int32), g))))) else (some (((2 : Int32) + w2), g)))
def f11_accessed_j209 (w1 : Int32) (w2 : Int32) (g : Sg) : Option (Int32 × Sg) :=
  (rd 1805 (g 1) (1398 : Int32) (fun v66 => (if w2 < 0 then (wr 1805 (1398 : Int32) (va_up g 1 (upd (g 1) ((1398 : Int32)).toNatClampNeg (v66 + (0 : Int32)))) (fun g69 => (rd 1805 (g69 1) (604 : Int32) (fun v71 => (if v71 ≤ 0 then (f11_accessed_j295 w1 w2 g69) else (rd 1805 (g69 1) (1402 : Int32) (fun v74 => (wr 1805 (1402 : Int32) (va_up g69 1 (upd (g69 1) ((1402 : Int32)).toNatClampNeg (v74 + (1 : Int32)))) (fun g76 => (rd 1805 (g76 1) (1401 : Int32) (fun v78 => (if w2 < 0 then (wr 1805 (1401 : Int32) (va_up g76 1 (upd (g76 1) ((1401 : Int32)).toNatClampNeg (v78 + (0 : Int32)))) (fun g81 => (rd 1805 (g81 1) (1402 : Int32) (fun v83 => (rd 1805 (g81 1) (605 : Int32) (fun v85 => (if v83 = v85 then ((f11_climb g81).bind (fun g88 => (f11_accessed_j295 w1 w2 g88))) else (f11_accessed_j295 w1 w2 g81)))))))) else (wr 1805 (1401 : Int32) (va_up g76 1 (upd (g76 1) ((1401 : Int32)).toNatClampNeg (v78 + (1 : Int32)))) (fun g91 => (rd 1805 (g91 1) (1402 : Int32) (fun v93 => (rd 1805 (g91 1) (605 : Int32) (fun v95 => (if v93 = v95 then ((f11_climb g91).bind (fun g98 => (f11_accessed_j295 w1 w2 g98))) else (f11_accessed_j295 w1 w2 g91)))))))))))))))))))) else (wr 1805 (1398 : Int32) (va_up g 1 (upd (g 1) ((1398 : Int32)).toNatClampNeg (v66 + (1 : Int32)))) (fun g101 => (rd 1805 (g101 1) (604 : Int32) (fun v103 => (if v103 ≤ 0 then (f11_accessed_j295 w1 w2 g101) else (rd 1805 (g101 1) (1402 : Int32) (fun v106 => (wr 1805 (1402 : Int32) (va_up g101 1 (upd (g101 1) ((1402 : Int32)).toNatClampNeg (v106 + (1 : Int32)))) (fun g108 => (rd 1805 (g108 1) (1401 : Int32) (fun v110 => (if w2 < 0 then (wr 1805 (1401 : Int32) (va_up g108 1 (upd (g108 1) ((1401 : Int32)).toNatClampNeg (v110 + (0 : Int32)))) (fun g113 => (rd 1805 (g113 1) (1402 : Int32) (fun v115 => (rd 1805 (g113 1) (605 : Int32) (fun v117 => (if v115 = v117 then ((f11_climb g113).bind (fun g120 => (f11_accessed_j295 w1 w2 g120))) else (f11_accessed_j295 w1 w2 g113)))))))) else (wr 1805 (1401 : Int32) (va_up g108 1 (upd (g108 1) ((1401 : Int32)).toNatClampNeg (v110 + (1 : Int32)))) (fun g123 => (rd 1805 (g123 1) (1402 : Int32) (fun v125 => (rd 1805 (g123 1) (605 : Int32) (fun v127 => (if v125 = v127 then ((f11_climb g123).bind (fun g130 => (f11_accessed_j295 w1 w2 g130))) else (f11_accessed_j295 w1 w2 g123)))))))))))))))))))))))
def f11_accessed_j75 (w1 : Int32) (g : Sg) : Option (Int32 × Sg) :=
  (rd 1805 (g 1) (1404 : Int32) (fun v14 => (wr 1805 ((1405 : Int32) + v14) (va_up g 1 (upd (g 1) (((1405 : Int32) + v14)).toNatClampNeg w1)) (fun g16 => (rd 1805 (g16 1) (1404 : Int32) (fun v18 => (wr 1805 (1404 : Int32) (va_up g16 1 (upd (g16 1) ((1404 : Int32)).toNatClampNeg (v18 + (1 : Int32)))) (fun g20 => ((f11_count w1 g20).bind (fun g22 => ((f11_partOf g22 w1).bind (fun r25 => (if r25 < 0 then (rd 1805 (g22 1) ((990 : Int32) + w1) (fun v29 => (if (g22 0 1) < v29 then (f11_accessed_j209 w1 r25 g22) else (rd 1805 (g22 1) ((990 : Int32) + w1) (fun v32 => (rd 1805 (g22 1) (1393 : Int32) (fun v34 => (if v32 ≤ v34 then ((f11_append (0 : Int32) w1 g22).bind (fun g37 => ((f11_overflow g37).bind (fun g40 => (f11_accessed_j209 w1 r25 g40))))) else ((f11_candidate w1 g22).bind (fun g43 => (f11_accessed_j209 w1 r25 g43))))))))))) else ((f11_indexOf g22 r25 w1).bind (fun r46 => (b2 (f11_take r25 r46 g22) (fun r50 g49 => (if r25 = 0 then ((f11_append (0 : Int32) r50 g49).bind (fun g60 => ((f11_settle g60).bind (fun g63 => (f11_accessed_j209 w1 r25 g63))))) else ((f11_append (2 : Int32) r50 g49).bind (fun g54 => ((f11_settle g54).bind (fun g57 => (f11_accessed_j209 w1 r25 g57)))))))))))))))))))))))
def f11_accessed_j63 (w1 : Int32) (g : Sg) : Option (Int32 × Sg) :=
  (rd 1805 (g 1) (1404 : Int32) (fun v138 => (wr 1805 (1404 : Int32) (va_up g 1 (upd (g 1) ((1404 : Int32)).toNatClampNeg (v138 - (1 : Int32)))) (fun g140 => (f11_accessed_j75 w1 g140)))))
def f11_accessed_b28 (rec28 : Int32 → Int32 → Sg → Option (Int32 × Sg)) (w1 : Int32) (w2 : Int32) (g : Sg) : Option (Int32 × Sg) :=
  (if (300 : Int32) ≤ w2 then (f11_accessed_j63 w1 g) else (rd 1805 (g 1) ((1405 : Int32) + w2) (fun v10 => (wr 1805 (((1405 : Int32) + w2) - (1 : Int32)) (va_up g 1 (upd (g 1) ((((1405 : Int32) + w2) - (1 : Int32))).toNatClampNeg v10)) (fun g12 => (rec28 w1 (w2 + (1 : Int32)) g12))))))
def f11_accessed_l28 : Nat → Int32 → Int32 → Sg → Option (Int32 × Sg)
  | 0 => fun _ _ _ => none
  | k + 1 => f11_accessed_b28 (f11_accessed_l28 k)
def f11_accessed (a1 : Int32) (g : Sg) : Option (Int32 × Sg) :=
  (rd 1805 (g 1) (1397 : Int32) (fun v2 => (wr 1805 (1397 : Int32) (va_up g 1 (upd (g 1) ((1397 : Int32)).toNatClampNeg (v2 + (1 : Int32)))) (fun g4 => (rd 1805 (g4 1) (1404 : Int32) (fun v6 => (if v6 = (300 : Int32) then (f11_accessed_l28 NF a1 (1 : Int32) g4) else (f11_accessed_j75 a1 g4))))))))
set_option maxHeartbeats 4000000 in
set_option maxRecDepth 100000 in
theorem f11_accessed_ok (l : Launch) (D : va_G) (cy : Nat → ClassId) (ad : Nat → Nat → Nat → Nat) (ns : List (Nat × Nat × Nat)) (M : Me) (t i : Nat) (hI : IsModel cy ad ns t i) (g : Sg) (a1 : Int32) (r : Int32) (m2 : Sg)  (hf : f11_accessed a1 g = some (r, m2)) : Ci l yX11_accessed (.code yX11_accessed cX11_accessed 4 (some .int) :: tk_tb) { frames := 7, cells := 0, slots := 0, locals := 162 } D cy ad ns [.ref (ad t i 0), .int a1] (uI M t i g) r (uI M t i m2) := by
  refine Ci.of (by decide) (Nat.le_of_ble_eq_true rfl) ?_
  intro p e s m below meth c ls hE hW hl
  obtain ⟨hx, hb, hr, hml, hown, hts, hlk, hK⟩ := hE
  have hA : ∀ q : Nat, s.heap.size ≤ q → Aw ad ns s.heap.size q := fun q h => Or.inr h
  have hl : lv_has ls 4 [(0, .ref (ad t i 0)), (1, .int a1)] := hl
  unfold f11_accessed at hf
  have J295 : ∀ (w1 : Int32) (w2 : Int32) (g : Sg) (H : Heap) (locs : List Loc) (ls : Array Slot), f11_accessed_j295 w1 w2 g = some (r, m2) → Wl D cy ad ns (Aw ad ns s.heap.size) s.heap (uI M t i g) H locs → lv_has ls 4 [(0, .ref (ad t i 0)), (1, .int w1), (2, .int w2)] → W p l e { frames := 7, cells := 0, slots := 0, locals := 162 } s m ([.ref (ad t i 0), .int a1] : List Value).toArray below meth c H locs 0 0 (QI below D cy ad ns [.ref (ad t i 0), .int a1] s r (uI M t i m2)) (F0 m 295 ls []) := by
    intro w1 w2 g H locs ls hf hW hl
    unfold f11_accessed_j295 at hf
    refine lv_iload_n hx hb dX11_accessed_295 rfl (lv_at hl 2 rfl) ?_
    refine lv_if_lt (tgt := 305) hx hb dX11_accessed_296 (by decide) (fun c132 => ?_) (fun c132 => ?_)
    · replace hf := (if_pos c132).symm.trans hf
      refine lv_aload_n hx hb dX11_accessed_305 rfl (lv_at hl 0 rfl) ?_
      refine lv_iload_n hx hb dX11_accessed_306 rfl (lv_at hl 1 rfl) ?_
      obtain ⟨r134, hc133, hf⟩ := bd_some hf
      have hC135 := f11_partOf_ok l D cy ad ns M t i hI g w1 r134 hc133
      refine x_vi (n := 1) (As := [.int w1]) (rest := []) hx hb hml hts hown hK hW hA hC135 (hI.2 0 (by decide)) uI_o (hI.1 0 _) rfl rfl t_819 t_821 p_26 t_14 t_822 rfl (by decide +kernel) rfl rfl ⟨Nat.le_of_ble_eq_true rfl, Nat.le_of_ble_eq_true rfl⟩ hl.1 rfl (lv_room (Nat.le_of_ble_eq_true rfl)) dX11_accessed_307 ⟨(Nat.le_of_ble_eq_true rfl), (Nat.le_of_ble_eq_true rfl)⟩ (fun H locs hW => ?_)
      refine lv_if_lt (tgt := 317) hx hb dX11_accessed_310 (by decide) (fun c136 => ?_) (fun c136 => ?_)
      · replace hf := (if_pos c136).symm.trans hf
        refine lv_iconst (v := 0) hx hb dX11_accessed_317 (by decide) ?_
        exact x_iret hx hb hr hlk hK hW (congrArg Prod.fst (Option.some.inj hf)) (congrArg (fun q => (uI M t i (Prod.snd q))) (Option.some.inj hf)) dX11_accessed_318
      · replace hf := (if_neg c136).symm.trans hf
        refine lv_iconst (v := 1) hx hb dX11_accessed_313 (by decide) ?_
        refine lv_goto (tgt := 318) hx hb dX11_accessed_314 (by decide) ?_
        exact x_iret hx hb hr hlk hK hW (congrArg Prod.fst (Option.some.inj hf)) (congrArg (fun q => (uI M t i (Prod.snd q))) (Option.some.inj hf)) dX11_accessed_318
    · replace hf := (if_neg c132).symm.trans hf
      refine lv_iconst (v := 2) hx hb dX11_accessed_299 (by decide) ?_
      refine lv_iload_n hx hb dX11_accessed_300 rfl (lv_at hl 2 rfl) ?_
      refine lv_iadd hx hb dX11_accessed_301 ?_
      refine lv_goto (tgt := 318) hx hb dX11_accessed_302 (by decide) ?_
      exact x_iret hx hb hr hlk hK hW (congrArg Prod.fst (Option.some.inj hf)) (congrArg (fun q => (uI M t i (Prod.snd q))) (Option.some.inj hf)) dX11_accessed_318
  have J209 : ∀ (w1 : Int32) (w2 : Int32) (g : Sg) (H : Heap) (locs : List Loc) (ls : Array Slot), f11_accessed_j209 w1 w2 g = some (r, m2) → Wl D cy ad ns (Aw ad ns s.heap.size) s.heap (uI M t i g) H locs → lv_has ls 4 [(0, .ref (ad t i 0)), (1, .int w1), (2, .int w2)] → W p l e { frames := 7, cells := 0, slots := 0, locals := 162 } s m ([.ref (ad t i 0), .int a1] : List Value).toArray below meth c H locs 0 0 (QI below D cy ad ns [.ref (ad t i 0), .int a1] s r (uI M t i m2)) (F0 m 209 ls []) := by
    intro w1 w2 g H locs ls hf hW hl
    unfold f11_accessed_j209 at hf
    refine lv_aload_n hx hb dX11_accessed_209 rfl (lv_at hl 0 rfl) ?_
    refine x_get hx hb hts hown hK hW (hI.2 0 (by decide)) uI_o (hI.1 0 _) rfl inX11 2 (by decide) t_742 rfl dX11_accessed_210 ?_
    refine lv_sipush (v := 1398) hx hb dX11_accessed_213 (by decide) ?_
    refine lv_dup2_11 hx hb dX11_accessed_216 rfl rfl ?_
    obtain ⟨hi65, hf⟩ := rd_some hf
    refine x_iald hx hb hK hW (hI.2 1 (by decide)) uI_o (hI.1 1 _) hi65 dX11_accessed_217 ?_
    generalize g 1 ((1398 : Int32)).toNatClampNeg = v66 at hf ⊢
    refine lv_iload_n hx hb dX11_accessed_218 rfl (lv_at hl 2 rfl) ?_
    refine lv_if_lt (tgt := 226) hx hb dX11_accessed_219 (by decide) (fun c67 => ?_) (fun c67 => ?_)
    · replace hf := (if_pos c67).symm.trans hf
      refine lv_iconst (v := 0) hx hb dX11_accessed_226 (by decide) ?_
      refine lv_iadd hx hb dX11_accessed_227 ?_
      obtain ⟨hi68, hf⟩ := wr_some hf
      refine x_iast hx hb hK hW (hI.2 1 (by decide)) uI_o (fun _ => (hI.1 1 _)) hi68 uC_leaf dX11_accessed_228 (fun H locs hW => ?_)
      generalize (va_up g 1 (upd (g 1) ((1398 : Int32)).toNatClampNeg (v66 + (0 : Int32)))) = g69 at hf hW
      refine lv_aload_n hx hb dX11_accessed_229 rfl (lv_at hl 0 rfl) ?_
      refine x_get hx hb hts hown hK hW (hI.2 0 (by decide)) uI_o (hI.1 0 _) rfl inX11 2 (by decide) t_742 rfl dX11_accessed_230 ?_
      refine lv_sipush (v := 604) hx hb dX11_accessed_233 (by decide) ?_
      obtain ⟨hi70, hf⟩ := rd_some hf
      refine x_iald hx hb hK hW (hI.2 1 (by decide)) uI_o (hI.1 1 _) hi70 dX11_accessed_236 ?_
      generalize g69 1 ((604 : Int32)).toNatClampNeg = v71 at hf ⊢
      refine lv_if_le (tgt := 295) hx hb dX11_accessed_237 (by decide) (fun c72 => ?_) (fun c72 => ?_)
      · replace hf := (if_pos c72).symm.trans hf
        exact J295 _ _ _ _ _ _ hf hW (lv_sub hl [0, 1, 2] rfl)
      · replace hf := (if_neg c72).symm.trans hf
        refine lv_aload_n hx hb dX11_accessed_240 rfl (lv_at hl 0 rfl) ?_
        refine x_get hx hb hts hown hK hW (hI.2 0 (by decide)) uI_o (hI.1 0 _) rfl inX11 2 (by decide) t_742 rfl dX11_accessed_241 ?_
        refine lv_sipush (v := 1402) hx hb dX11_accessed_244 (by decide) ?_
        refine lv_dup2_11 hx hb dX11_accessed_247 rfl rfl ?_
        obtain ⟨hi73, hf⟩ := rd_some hf
        refine x_iald hx hb hK hW (hI.2 1 (by decide)) uI_o (hI.1 1 _) hi73 dX11_accessed_248 ?_
        generalize g69 1 ((1402 : Int32)).toNatClampNeg = v74 at hf ⊢
        refine lv_iconst (v := 1) hx hb dX11_accessed_249 (by decide) ?_
        refine lv_iadd hx hb dX11_accessed_250 ?_
        obtain ⟨hi75, hf⟩ := wr_some hf
        refine x_iast hx hb hK hW (hI.2 1 (by decide)) uI_o (fun _ => (hI.1 1 _)) hi75 uC_leaf dX11_accessed_251 (fun H locs hW => ?_)
        generalize (va_up g69 1 (upd (g69 1) ((1402 : Int32)).toNatClampNeg (v74 + (1 : Int32)))) = g76 at hf hW
        refine lv_aload_n hx hb dX11_accessed_252 rfl (lv_at hl 0 rfl) ?_
        refine x_get hx hb hts hown hK hW (hI.2 0 (by decide)) uI_o (hI.1 0 _) rfl inX11 2 (by decide) t_742 rfl dX11_accessed_253 ?_
        refine lv_sipush (v := 1401) hx hb dX11_accessed_256 (by decide) ?_
        refine lv_dup2_11 hx hb dX11_accessed_259 rfl rfl ?_
        obtain ⟨hi77, hf⟩ := rd_some hf
        refine x_iald hx hb hK hW (hI.2 1 (by decide)) uI_o (hI.1 1 _) hi77 dX11_accessed_260 ?_
        generalize g76 1 ((1401 : Int32)).toNatClampNeg = v78 at hf ⊢
        refine lv_iload_n hx hb dX11_accessed_261 rfl (lv_at hl 2 rfl) ?_
        refine lv_if_lt (tgt := 269) hx hb dX11_accessed_262 (by decide) (fun c79 => ?_) (fun c79 => ?_)
        · replace hf := (if_pos c79).symm.trans hf
          refine lv_iconst (v := 0) hx hb dX11_accessed_269 (by decide) ?_
          refine lv_iadd hx hb dX11_accessed_270 ?_
          obtain ⟨hi80, hf⟩ := wr_some hf
          refine x_iast hx hb hK hW (hI.2 1 (by decide)) uI_o (fun _ => (hI.1 1 _)) hi80 uC_leaf dX11_accessed_271 (fun H locs hW => ?_)
          generalize (va_up g76 1 (upd (g76 1) ((1401 : Int32)).toNatClampNeg (v78 + (0 : Int32)))) = g81 at hf hW
          refine lv_aload_n hx hb dX11_accessed_272 rfl (lv_at hl 0 rfl) ?_
          refine x_get hx hb hts hown hK hW (hI.2 0 (by decide)) uI_o (hI.1 0 _) rfl inX11 2 (by decide) t_742 rfl dX11_accessed_273 ?_
          refine lv_sipush (v := 1402) hx hb dX11_accessed_276 (by decide) ?_
          obtain ⟨hi82, hf⟩ := rd_some hf
          refine x_iald hx hb hK hW (hI.2 1 (by decide)) uI_o (hI.1 1 _) hi82 dX11_accessed_279 ?_
          generalize g81 1 ((1402 : Int32)).toNatClampNeg = v83 at hf ⊢
          refine lv_aload_n hx hb dX11_accessed_280 rfl (lv_at hl 0 rfl) ?_
          refine x_get hx hb hts hown hK hW (hI.2 0 (by decide)) uI_o (hI.1 0 _) rfl inX11 2 (by decide) t_742 rfl dX11_accessed_281 ?_
          refine lv_sipush (v := 605) hx hb dX11_accessed_284 (by decide) ?_
          obtain ⟨hi84, hf⟩ := rd_some hf
          refine x_iald hx hb hK hW (hI.2 1 (by decide)) uI_o (hI.1 1 _) hi84 dX11_accessed_287 ?_
          generalize g81 1 ((605 : Int32)).toNatClampNeg = v85 at hf ⊢
          refine lv_icmp_ne (tgt := 295) hx hb dX11_accessed_288 (by decide) (fun c86 => ?_) (fun c86 => ?_)
          · replace hf := (if_neg c86).symm.trans hf
            exact J295 _ _ _ _ _ _ hf hW (lv_sub hl [0, 1, 2] rfl)
          · replace hf := (if_pos c86).symm.trans hf
            refine lv_aload_n hx hb dX11_accessed_291 rfl (lv_at hl 0 rfl) ?_
            obtain ⟨g88, hc87, hf⟩ := bd_some hf
            have hC89 := f11_climb_ok l D cy ad ns M t i hI g81 g88 hc87
            refine x_vv (n := 0) (As := []) (rest := []) hx hb hml hts hown hK hW hA hC89 (hI.2 0 (by decide)) uI_o (hI.1 0 _) rfl rfl t_895 t_897 p_44 t_14 t_898 rfl (by decide +kernel) rfl rfl ⟨Nat.le_of_ble_eq_true rfl, Nat.le_of_ble_eq_true rfl⟩ hl.1 rfl (lv_room (Nat.le_of_ble_eq_true rfl)) dX11_accessed_292 ⟨(Nat.le_of_ble_eq_true rfl), (Nat.le_of_ble_eq_true rfl)⟩ (fun H locs hW => ?_)
            exact J295 _ _ _ _ _ _ hf hW (lv_sub hl [0, 1, 2] rfl)
        · replace hf := (if_neg c79).symm.trans hf
          refine lv_iconst (v := 1) hx hb dX11_accessed_265 (by decide) ?_
          refine lv_goto (tgt := 270) hx hb dX11_accessed_266 (by decide) ?_
          refine lv_iadd hx hb dX11_accessed_270 ?_
          obtain ⟨hi90, hf⟩ := wr_some hf
          refine x_iast hx hb hK hW (hI.2 1 (by decide)) uI_o (fun _ => (hI.1 1 _)) hi90 uC_leaf dX11_accessed_271 (fun H locs hW => ?_)
          generalize (va_up g76 1 (upd (g76 1) ((1401 : Int32)).toNatClampNeg (v78 + (1 : Int32)))) = g91 at hf hW
          refine lv_aload_n hx hb dX11_accessed_272 rfl (lv_at hl 0 rfl) ?_
          refine x_get hx hb hts hown hK hW (hI.2 0 (by decide)) uI_o (hI.1 0 _) rfl inX11 2 (by decide) t_742 rfl dX11_accessed_273 ?_
          refine lv_sipush (v := 1402) hx hb dX11_accessed_276 (by decide) ?_
          obtain ⟨hi92, hf⟩ := rd_some hf
          refine x_iald hx hb hK hW (hI.2 1 (by decide)) uI_o (hI.1 1 _) hi92 dX11_accessed_279 ?_
          generalize g91 1 ((1402 : Int32)).toNatClampNeg = v93 at hf ⊢
          refine lv_aload_n hx hb dX11_accessed_280 rfl (lv_at hl 0 rfl) ?_
          refine x_get hx hb hts hown hK hW (hI.2 0 (by decide)) uI_o (hI.1 0 _) rfl inX11 2 (by decide) t_742 rfl dX11_accessed_281 ?_
          refine lv_sipush (v := 605) hx hb dX11_accessed_284 (by decide) ?_
          obtain ⟨hi94, hf⟩ := rd_some hf
          refine x_iald hx hb hK hW (hI.2 1 (by decide)) uI_o (hI.1 1 _) hi94 dX11_accessed_287 ?_
          generalize g91 1 ((605 : Int32)).toNatClampNeg = v95 at hf ⊢
          refine lv_icmp_ne (tgt := 295) hx hb dX11_accessed_288 (by decide) (fun c96 => ?_) (fun c96 => ?_)
          · replace hf := (if_neg c96).symm.trans hf
            exact J295 _ _ _ _ _ _ hf hW (lv_sub hl [0, 1, 2] rfl)
          · replace hf := (if_pos c96).symm.trans hf
            refine lv_aload_n hx hb dX11_accessed_291 rfl (lv_at hl 0 rfl) ?_
            obtain ⟨g98, hc97, hf⟩ := bd_some hf
            have hC99 := f11_climb_ok l D cy ad ns M t i hI g91 g98 hc97
            refine x_vv (n := 0) (As := []) (rest := []) hx hb hml hts hown hK hW hA hC99 (hI.2 0 (by decide)) uI_o (hI.1 0 _) rfl rfl t_895 t_897 p_44 t_14 t_898 rfl (by decide +kernel) rfl rfl ⟨Nat.le_of_ble_eq_true rfl, Nat.le_of_ble_eq_true rfl⟩ hl.1 rfl (lv_room (Nat.le_of_ble_eq_true rfl)) dX11_accessed_292 ⟨(Nat.le_of_ble_eq_true rfl), (Nat.le_of_ble_eq_true rfl)⟩ (fun H locs hW => ?_)
            exact J295 _ _ _ _ _ _ hf hW (lv_sub hl [0, 1, 2] rfl)
    · replace hf := (if_neg c67).symm.trans hf
      refine lv_iconst (v := 1) hx hb dX11_accessed_222 (by decide) ?_
      refine lv_goto (tgt := 227) hx hb dX11_accessed_223 (by decide) ?_
      refine lv_iadd hx hb dX11_accessed_227 ?_
      obtain ⟨hi100, hf⟩ := wr_some hf
      refine x_iast hx hb hK hW (hI.2 1 (by decide)) uI_o (fun _ => (hI.1 1 _)) hi100 uC_leaf dX11_accessed_228 (fun H locs hW => ?_)
      generalize (va_up g 1 (upd (g 1) ((1398 : Int32)).toNatClampNeg (v66 + (1 : Int32)))) = g101 at hf hW
      refine lv_aload_n hx hb dX11_accessed_229 rfl (lv_at hl 0 rfl) ?_
      refine x_get hx hb hts hown hK hW (hI.2 0 (by decide)) uI_o (hI.1 0 _) rfl inX11 2 (by decide) t_742 rfl dX11_accessed_230 ?_
      refine lv_sipush (v := 604) hx hb dX11_accessed_233 (by decide) ?_
      obtain ⟨hi102, hf⟩ := rd_some hf
      refine x_iald hx hb hK hW (hI.2 1 (by decide)) uI_o (hI.1 1 _) hi102 dX11_accessed_236 ?_
      generalize g101 1 ((604 : Int32)).toNatClampNeg = v103 at hf ⊢
      refine lv_if_le (tgt := 295) hx hb dX11_accessed_237 (by decide) (fun c104 => ?_) (fun c104 => ?_)
      · replace hf := (if_pos c104).symm.trans hf
        exact J295 _ _ _ _ _ _ hf hW (lv_sub hl [0, 1, 2] rfl)
      · replace hf := (if_neg c104).symm.trans hf
        refine lv_aload_n hx hb dX11_accessed_240 rfl (lv_at hl 0 rfl) ?_
        refine x_get hx hb hts hown hK hW (hI.2 0 (by decide)) uI_o (hI.1 0 _) rfl inX11 2 (by decide) t_742 rfl dX11_accessed_241 ?_
        refine lv_sipush (v := 1402) hx hb dX11_accessed_244 (by decide) ?_
        refine lv_dup2_11 hx hb dX11_accessed_247 rfl rfl ?_
        obtain ⟨hi105, hf⟩ := rd_some hf
        refine x_iald hx hb hK hW (hI.2 1 (by decide)) uI_o (hI.1 1 _) hi105 dX11_accessed_248 ?_
        generalize g101 1 ((1402 : Int32)).toNatClampNeg = v106 at hf ⊢
        refine lv_iconst (v := 1) hx hb dX11_accessed_249 (by decide) ?_
        refine lv_iadd hx hb dX11_accessed_250 ?_
        obtain ⟨hi107, hf⟩ := wr_some hf
        refine x_iast hx hb hK hW (hI.2 1 (by decide)) uI_o (fun _ => (hI.1 1 _)) hi107 uC_leaf dX11_accessed_251 (fun H locs hW => ?_)
        generalize (va_up g101 1 (upd (g101 1) ((1402 : Int32)).toNatClampNeg (v106 + (1 : Int32)))) = g108 at hf hW
        refine lv_aload_n hx hb dX11_accessed_252 rfl (lv_at hl 0 rfl) ?_
        refine x_get hx hb hts hown hK hW (hI.2 0 (by decide)) uI_o (hI.1 0 _) rfl inX11 2 (by decide) t_742 rfl dX11_accessed_253 ?_
        refine lv_sipush (v := 1401) hx hb dX11_accessed_256 (by decide) ?_
        refine lv_dup2_11 hx hb dX11_accessed_259 rfl rfl ?_
        obtain ⟨hi109, hf⟩ := rd_some hf
        refine x_iald hx hb hK hW (hI.2 1 (by decide)) uI_o (hI.1 1 _) hi109 dX11_accessed_260 ?_
        generalize g108 1 ((1401 : Int32)).toNatClampNeg = v110 at hf ⊢
        refine lv_iload_n hx hb dX11_accessed_261 rfl (lv_at hl 2 rfl) ?_
        refine lv_if_lt (tgt := 269) hx hb dX11_accessed_262 (by decide) (fun c111 => ?_) (fun c111 => ?_)
        · replace hf := (if_pos c111).symm.trans hf
          refine lv_iconst (v := 0) hx hb dX11_accessed_269 (by decide) ?_
          refine lv_iadd hx hb dX11_accessed_270 ?_
          obtain ⟨hi112, hf⟩ := wr_some hf
          refine x_iast hx hb hK hW (hI.2 1 (by decide)) uI_o (fun _ => (hI.1 1 _)) hi112 uC_leaf dX11_accessed_271 (fun H locs hW => ?_)
          generalize (va_up g108 1 (upd (g108 1) ((1401 : Int32)).toNatClampNeg (v110 + (0 : Int32)))) = g113 at hf hW
          refine lv_aload_n hx hb dX11_accessed_272 rfl (lv_at hl 0 rfl) ?_
          refine x_get hx hb hts hown hK hW (hI.2 0 (by decide)) uI_o (hI.1 0 _) rfl inX11 2 (by decide) t_742 rfl dX11_accessed_273 ?_
          refine lv_sipush (v := 1402) hx hb dX11_accessed_276 (by decide) ?_
          obtain ⟨hi114, hf⟩ := rd_some hf
          refine x_iald hx hb hK hW (hI.2 1 (by decide)) uI_o (hI.1 1 _) hi114 dX11_accessed_279 ?_
          generalize g113 1 ((1402 : Int32)).toNatClampNeg = v115 at hf ⊢
          refine lv_aload_n hx hb dX11_accessed_280 rfl (lv_at hl 0 rfl) ?_
          refine x_get hx hb hts hown hK hW (hI.2 0 (by decide)) uI_o (hI.1 0 _) rfl inX11 2 (by decide) t_742 rfl dX11_accessed_281 ?_
          refine lv_sipush (v := 605) hx hb dX11_accessed_284 (by decide) ?_
          obtain ⟨hi116, hf⟩ := rd_some hf
          refine x_iald hx hb hK hW (hI.2 1 (by decide)) uI_o (hI.1 1 _) hi116 dX11_accessed_287 ?_
          generalize g113 1 ((605 : Int32)).toNatClampNeg = v117 at hf ⊢
          refine lv_icmp_ne (tgt := 295) hx hb dX11_accessed_288 (by decide) (fun c118 => ?_) (fun c118 => ?_)
          · replace hf := (if_neg c118).symm.trans hf
            exact J295 _ _ _ _ _ _ hf hW (lv_sub hl [0, 1, 2] rfl)
          · replace hf := (if_pos c118).symm.trans hf
            refine lv_aload_n hx hb dX11_accessed_291 rfl (lv_at hl 0 rfl) ?_
            obtain ⟨g120, hc119, hf⟩ := bd_some hf
            have hC121 := f11_climb_ok l D cy ad ns M t i hI g113 g120 hc119
            refine x_vv (n := 0) (As := []) (rest := []) hx hb hml hts hown hK hW hA hC121 (hI.2 0 (by decide)) uI_o (hI.1 0 _) rfl rfl t_895 t_897 p_44 t_14 t_898 rfl (by decide +kernel) rfl rfl ⟨Nat.le_of_ble_eq_true rfl, Nat.le_of_ble_eq_true rfl⟩ hl.1 rfl (lv_room (Nat.le_of_ble_eq_true rfl)) dX11_accessed_292 ⟨(Nat.le_of_ble_eq_true rfl), (Nat.le_of_ble_eq_true rfl)⟩ (fun H locs hW => ?_)
            exact J295 _ _ _ _ _ _ hf hW (lv_sub hl [0, 1, 2] rfl)
        · replace hf := (if_neg c111).symm.trans hf
          refine lv_iconst (v := 1) hx hb dX11_accessed_265 (by decide) ?_
          refine lv_goto (tgt := 270) hx hb dX11_accessed_266 (by decide) ?_
          refine lv_iadd hx hb dX11_accessed_270 ?_
          obtain ⟨hi122, hf⟩ := wr_some hf
          refine x_iast hx hb hK hW (hI.2 1 (by decide)) uI_o (fun _ => (hI.1 1 _)) hi122 uC_leaf dX11_accessed_271 (fun H locs hW => ?_)
          generalize (va_up g108 1 (upd (g108 1) ((1401 : Int32)).toNatClampNeg (v110 + (1 : Int32)))) = g123 at hf hW
          refine lv_aload_n hx hb dX11_accessed_272 rfl (lv_at hl 0 rfl) ?_
          refine x_get hx hb hts hown hK hW (hI.2 0 (by decide)) uI_o (hI.1 0 _) rfl inX11 2 (by decide) t_742 rfl dX11_accessed_273 ?_
          refine lv_sipush (v := 1402) hx hb dX11_accessed_276 (by decide) ?_
          obtain ⟨hi124, hf⟩ := rd_some hf
          refine x_iald hx hb hK hW (hI.2 1 (by decide)) uI_o (hI.1 1 _) hi124 dX11_accessed_279 ?_
          generalize g123 1 ((1402 : Int32)).toNatClampNeg = v125 at hf ⊢
          refine lv_aload_n hx hb dX11_accessed_280 rfl (lv_at hl 0 rfl) ?_
          refine x_get hx hb hts hown hK hW (hI.2 0 (by decide)) uI_o (hI.1 0 _) rfl inX11 2 (by decide) t_742 rfl dX11_accessed_281 ?_
          refine lv_sipush (v := 605) hx hb dX11_accessed_284 (by decide) ?_
          obtain ⟨hi126, hf⟩ := rd_some hf
          refine x_iald hx hb hK hW (hI.2 1 (by decide)) uI_o (hI.1 1 _) hi126 dX11_accessed_287 ?_
          generalize g123 1 ((605 : Int32)).toNatClampNeg = v127 at hf ⊢
          refine lv_icmp_ne (tgt := 295) hx hb dX11_accessed_288 (by decide) (fun c128 => ?_) (fun c128 => ?_)
          · replace hf := (if_neg c128).symm.trans hf
            exact J295 _ _ _ _ _ _ hf hW (lv_sub hl [0, 1, 2] rfl)
          · replace hf := (if_pos c128).symm.trans hf
            refine lv_aload_n hx hb dX11_accessed_291 rfl (lv_at hl 0 rfl) ?_
            obtain ⟨g130, hc129, hf⟩ := bd_some hf
            have hC131 := f11_climb_ok l D cy ad ns M t i hI g123 g130 hc129
            refine x_vv (n := 0) (As := []) (rest := []) hx hb hml hts hown hK hW hA hC131 (hI.2 0 (by decide)) uI_o (hI.1 0 _) rfl rfl t_895 t_897 p_44 t_14 t_898 rfl (by decide +kernel) rfl rfl ⟨Nat.le_of_ble_eq_true rfl, Nat.le_of_ble_eq_true rfl⟩ hl.1 rfl (lv_room (Nat.le_of_ble_eq_true rfl)) dX11_accessed_292 ⟨(Nat.le_of_ble_eq_true rfl), (Nat.le_of_ble_eq_true rfl)⟩ (fun H locs hW => ?_)
            exact J295 _ _ _ _ _ _ hf hW (lv_sub hl [0, 1, 2] rfl)
  have J75 : ∀ (w1 : Int32) (g : Sg) (H : Heap) (locs : List Loc) (ls : Array Slot), f11_accessed_j75 w1 g = some (r, m2) → Wl D cy ad ns (Aw ad ns s.heap.size) s.heap (uI M t i g) H locs → lv_has ls 4 [(0, .ref (ad t i 0)), (1, .int w1)] → W p l e { frames := 7, cells := 0, slots := 0, locals := 162 } s m ([.ref (ad t i 0), .int a1] : List Value).toArray below meth c H locs 0 0 (QI below D cy ad ns [.ref (ad t i 0), .int a1] s r (uI M t i m2)) (F0 m 75 ls []) := by
    intro w1 g H locs ls hf hW hl
    unfold f11_accessed_j75 at hf
    refine lv_aload_n hx hb dX11_accessed_75 rfl (lv_at hl 0 rfl) ?_
    refine x_get hx hb hts hown hK hW (hI.2 0 (by decide)) uI_o (hI.1 0 _) rfl inX11 2 (by decide) t_742 rfl dX11_accessed_76 ?_
    refine lv_sipush (v := 1405) hx hb dX11_accessed_79 (by decide) ?_
    refine lv_aload_n hx hb dX11_accessed_82 rfl (lv_at hl 0 rfl) ?_
    refine x_get hx hb hts hown hK hW (hI.2 0 (by decide)) uI_o (hI.1 0 _) rfl inX11 2 (by decide) t_742 rfl dX11_accessed_83 ?_
    refine lv_sipush (v := 1404) hx hb dX11_accessed_86 (by decide) ?_
    obtain ⟨hi13, hf⟩ := rd_some hf
    refine x_iald hx hb hK hW (hI.2 1 (by decide)) uI_o (hI.1 1 _) hi13 dX11_accessed_89 ?_
    generalize g 1 ((1404 : Int32)).toNatClampNeg = v14 at hf ⊢
    refine lv_iadd hx hb dX11_accessed_90 ?_
    refine lv_iload_n hx hb dX11_accessed_91 rfl (lv_at hl 1 rfl) ?_
    obtain ⟨hi15, hf⟩ := wr_some hf
    refine x_iast hx hb hK hW (hI.2 1 (by decide)) uI_o (fun _ => (hI.1 1 _)) hi15 uC_leaf dX11_accessed_92 (fun H locs hW => ?_)
    generalize (va_up g 1 (upd (g 1) (((1405 : Int32) + v14)).toNatClampNeg w1)) = g16 at hf hW
    refine lv_aload_n hx hb dX11_accessed_93 rfl (lv_at hl 0 rfl) ?_
    refine x_get hx hb hts hown hK hW (hI.2 0 (by decide)) uI_o (hI.1 0 _) rfl inX11 2 (by decide) t_742 rfl dX11_accessed_94 ?_
    refine lv_sipush (v := 1404) hx hb dX11_accessed_97 (by decide) ?_
    refine lv_dup2_11 hx hb dX11_accessed_100 rfl rfl ?_
    obtain ⟨hi17, hf⟩ := rd_some hf
    refine x_iald hx hb hK hW (hI.2 1 (by decide)) uI_o (hI.1 1 _) hi17 dX11_accessed_101 ?_
    generalize g16 1 ((1404 : Int32)).toNatClampNeg = v18 at hf ⊢
    refine lv_iconst (v := 1) hx hb dX11_accessed_102 (by decide) ?_
    refine lv_iadd hx hb dX11_accessed_103 ?_
    obtain ⟨hi19, hf⟩ := wr_some hf
    refine x_iast hx hb hK hW (hI.2 1 (by decide)) uI_o (fun _ => (hI.1 1 _)) hi19 uC_leaf dX11_accessed_104 (fun H locs hW => ?_)
    generalize (va_up g16 1 (upd (g16 1) ((1404 : Int32)).toNatClampNeg (v18 + (1 : Int32)))) = g20 at hf hW
    refine lv_aload_n hx hb dX11_accessed_105 rfl (lv_at hl 0 rfl) ?_
    refine lv_iload_n hx hb dX11_accessed_106 rfl (lv_at hl 1 rfl) ?_
    obtain ⟨g22, hc21, hf⟩ := bd_some hf
    have hC23 := f11_count_ok l D cy ad ns M t i hI g20 w1 g22 hc21
    refine x_vv (n := 1) (As := [.int w1]) (rest := []) hx hb hml hts hown hK hW hA hC23 (hI.2 0 (by decide)) uI_o (hI.1 0 _) rfl rfl t_843 t_845 p_31 t_14 t_846 rfl (by decide +kernel) rfl rfl ⟨Nat.le_of_ble_eq_true rfl, Nat.le_of_ble_eq_true rfl⟩ hl.1 rfl (lv_room (Nat.le_of_ble_eq_true rfl)) dX11_accessed_107 ⟨(Nat.le_of_ble_eq_true rfl), (Nat.le_of_ble_eq_true rfl)⟩ (fun H locs hW => ?_)
    refine lv_aload_n hx hb dX11_accessed_110 rfl (lv_at hl 0 rfl) ?_
    refine lv_iload_n hx hb dX11_accessed_111 rfl (lv_at hl 1 rfl) ?_
    obtain ⟨r25, hc24, hf⟩ := bd_some hf
    have hC26 := f11_partOf_ok l D cy ad ns M t i hI g22 w1 r25 hc24
    refine x_vi (n := 1) (As := [.int w1]) (rest := []) hx hb hml hts hown hK hW hA hC26 (hI.2 0 (by decide)) uI_o (hI.1 0 _) rfl rfl t_819 t_821 p_26 t_14 t_822 rfl (by decide +kernel) rfl rfl ⟨Nat.le_of_ble_eq_true rfl, Nat.le_of_ble_eq_true rfl⟩ hl.1 rfl (lv_room (Nat.le_of_ble_eq_true rfl)) dX11_accessed_112 ⟨(Nat.le_of_ble_eq_true rfl), (Nat.le_of_ble_eq_true rfl)⟩ (fun H locs hW => ?_)
    refine lv_istore_n (lv' := [(2, .int r25), (0, .ref (ad t i 0)), (1, .int w1)]) hx hb dX11_accessed_115 rfl hl (by decide) rfl (fun ls hl => ?_)
    refine lv_iload_n hx hb dX11_accessed_116 rfl (lv_at hl 0 rfl) ?_
    refine lv_if_lt (tgt := 153) hx hb dX11_accessed_117 (by decide) (fun c27 => ?_) (fun c27 => ?_)
    · replace hf := (if_pos c27).symm.trans hf
      refine lv_aload_n hx hb dX11_accessed_153 rfl (lv_at hl 1 rfl) ?_
      refine x_get hx hb hts hown hK hW (hI.2 0 (by decide)) uI_o (hI.1 0 _) rfl inX11 2 (by decide) t_742 rfl dX11_accessed_154 ?_
      refine lv_sipush (v := 990) hx hb dX11_accessed_157 (by decide) ?_
      refine lv_iload_n hx hb dX11_accessed_160 rfl (lv_at hl 2 rfl) ?_
      refine lv_iadd hx hb dX11_accessed_161 ?_
      obtain ⟨hi28, hf⟩ := rd_some hf
      refine x_iald hx hb hK hW (hI.2 1 (by decide)) uI_o (hI.1 1 _) hi28 dX11_accessed_162 ?_
      generalize g22 1 (((990 : Int32) + w1)).toNatClampNeg = v29 at hf ⊢
      refine lv_aload_n hx hb dX11_accessed_163 rfl (lv_at hl 1 rfl) ?_
      refine x_get hx hb hts hown hK hW (hI.2 0 (by decide)) uI_o (hI.1 0 _) rfl inX11 1 (by decide) t_741 rfl dX11_accessed_164 ?_
      refine lv_icmp_gt (tgt := 209) hx hb dX11_accessed_167 (by decide) (fun c30 => ?_) (fun c30 => ?_)
      · replace hf := (if_pos c30).symm.trans hf
        exact J209 _ _ _ _ _ _ hf hW (lv_sub hl [1, 2, 0] rfl)
      · replace hf := (if_neg c30).symm.trans hf
        refine lv_aload_n hx hb dX11_accessed_170 rfl (lv_at hl 1 rfl) ?_
        refine x_get hx hb hts hown hK hW (hI.2 0 (by decide)) uI_o (hI.1 0 _) rfl inX11 2 (by decide) t_742 rfl dX11_accessed_171 ?_
        refine lv_sipush (v := 990) hx hb dX11_accessed_174 (by decide) ?_
        refine lv_iload_n hx hb dX11_accessed_177 rfl (lv_at hl 2 rfl) ?_
        refine lv_iadd hx hb dX11_accessed_178 ?_
        obtain ⟨hi31, hf⟩ := rd_some hf
        refine x_iald hx hb hK hW (hI.2 1 (by decide)) uI_o (hI.1 1 _) hi31 dX11_accessed_179 ?_
        generalize g22 1 (((990 : Int32) + w1)).toNatClampNeg = v32 at hf ⊢
        refine lv_aload_n hx hb dX11_accessed_180 rfl (lv_at hl 1 rfl) ?_
        refine x_get hx hb hts hown hK hW (hI.2 0 (by decide)) uI_o (hI.1 0 _) rfl inX11 2 (by decide) t_742 rfl dX11_accessed_181 ?_
        refine lv_sipush (v := 1393) hx hb dX11_accessed_184 (by decide) ?_
        obtain ⟨hi33, hf⟩ := rd_some hf
        refine x_iald hx hb hK hW (hI.2 1 (by decide)) uI_o (hI.1 1 _) hi33 dX11_accessed_187 ?_
        generalize g22 1 ((1393 : Int32)).toNatClampNeg = v34 at hf ⊢
        refine lv_icmp_le (tgt := 199) hx hb dX11_accessed_188 (by decide) (fun c35 => ?_) (fun c35 => ?_)
        · replace hf := (if_pos c35).symm.trans hf
          refine lv_aload_n hx hb dX11_accessed_199 rfl (lv_at hl 1 rfl) ?_
          refine lv_iconst (v := 0) hx hb dX11_accessed_200 (by decide) ?_
          refine lv_iload_n hx hb dX11_accessed_201 rfl (lv_at hl 2 rfl) ?_
          obtain ⟨g37, hc36, hf⟩ := bd_some hf
          have hC38 := f11_append_ok l D cy ad ns M t i hI g22 (0 : Int32) w1 g37 hc36
          refine x_vv (n := 2) (As := [.int (0 : Int32), .int w1]) (rest := []) hx hb hml hts hown hK hW hA hC38 (hI.2 0 (by decide)) uI_o (hI.1 0 _) rfl rfl t_863 t_865 p_36 t_14 t_866 rfl (by decide +kernel) rfl rfl ⟨Nat.le_of_ble_eq_true rfl, Nat.le_of_ble_eq_true rfl⟩ hl.1 rfl (lv_room (Nat.le_of_ble_eq_true rfl)) dX11_accessed_202 ⟨(Nat.le_of_ble_eq_true rfl), (Nat.le_of_ble_eq_true rfl)⟩ (fun H locs hW => ?_)
          refine lv_aload_n hx hb dX11_accessed_205 rfl (lv_at hl 1 rfl) ?_
          obtain ⟨g40, hc39, hf⟩ := bd_some hf
          have hC41 := f11_overflow_ok l D cy ad ns M t i hI g37 g40 hc39
          refine x_vv (n := 0) (As := []) (rest := []) hx hb hml hts hown hK hW hA hC41 (hI.2 0 (by decide)) uI_o (hI.1 0 _) rfl rfl t_891 t_893 p_43 t_14 t_894 rfl (by decide +kernel) rfl rfl ⟨Nat.le_of_ble_eq_true rfl, Nat.le_of_ble_eq_true rfl⟩ hl.1 rfl (lv_room (Nat.le_of_ble_eq_true rfl)) dX11_accessed_206 ⟨(Nat.le_of_ble_eq_true rfl), (Nat.le_of_ble_eq_true rfl)⟩ (fun H locs hW => ?_)
          exact J209 _ _ _ _ _ _ hf hW (lv_sub hl [1, 2, 0] rfl)
        · replace hf := (if_neg c35).symm.trans hf
          refine lv_aload_n hx hb dX11_accessed_191 rfl (lv_at hl 1 rfl) ?_
          refine lv_iload_n hx hb dX11_accessed_192 rfl (lv_at hl 2 rfl) ?_
          obtain ⟨g43, hc42, hf⟩ := bd_some hf
          have hC44 := f11_candidate_ok l D cy ad ns M t i hI g22 w1 g43 hc42
          refine x_vv (n := 1) (As := [.int w1]) (rest := []) hx hb hml hts hown hK hW hA hC44 (hI.2 0 (by decide)) uI_o (hI.1 0 _) rfl rfl t_875 t_877 p_39 t_14 t_878 rfl (by decide +kernel) rfl rfl ⟨Nat.le_of_ble_eq_true rfl, Nat.le_of_ble_eq_true rfl⟩ hl.1 rfl (lv_room (Nat.le_of_ble_eq_true rfl)) dX11_accessed_193 ⟨(Nat.le_of_ble_eq_true rfl), (Nat.le_of_ble_eq_true rfl)⟩ (fun H locs hW => ?_)
          refine lv_goto (tgt := 209) hx hb dX11_accessed_196 (by decide) ?_
          exact J209 _ _ _ _ _ _ hf hW (lv_sub hl [1, 2, 0] rfl)
    · replace hf := (if_neg c27).symm.trans hf
      refine lv_aload_n hx hb dX11_accessed_120 rfl (lv_at hl 1 rfl) ?_
      refine lv_iload_n hx hb dX11_accessed_121 rfl (lv_at hl 0 rfl) ?_
      refine lv_aload_n hx hb dX11_accessed_122 rfl (lv_at hl 1 rfl) ?_
      refine lv_iload_n hx hb dX11_accessed_123 rfl (lv_at hl 0 rfl) ?_
      refine lv_iload_n hx hb dX11_accessed_124 rfl (lv_at hl 2 rfl) ?_
      obtain ⟨r46, hc45, hf⟩ := bd_some hf
      have hC47 := f11_indexOf_ok l D cy ad ns M t i hI g22 r25 w1 r46 hc45
      refine x_vi (n := 2) (As := [.int r25, .int w1]) (rest := [.int r25, .ref (ad t i 0)]) hx hb hml hts hown hK hW hA hC47 (hI.2 0 (by decide)) uI_o (hI.1 0 _) rfl rfl t_823 t_825 p_27 t_14 t_826 rfl (by decide +kernel) rfl rfl ⟨Nat.le_of_ble_eq_true rfl, Nat.le_of_ble_eq_true rfl⟩ hl.1 rfl (lv_room (Nat.le_of_ble_eq_true rfl)) dX11_accessed_125 ⟨(Nat.le_of_ble_eq_true rfl), (Nat.le_of_ble_eq_true rfl)⟩ (fun H locs hW => ?_)
      obtain ⟨r50, g49, hc48, hf⟩ := b2_some hf
      have hC51 := f11_take_ok l D cy ad ns M t i hI g22 r25 r46 r50 g49 hc48
      refine x_vi (n := 2) (As := [.int r25, .int r46]) (rest := []) hx hb hml hts hown hK hW hA hC51 (hI.2 0 (by decide)) uI_o (hI.1 0 _) rfl rfl t_859 t_861 p_35 t_14 t_862 rfl (by decide +kernel) rfl rfl ⟨Nat.le_of_ble_eq_true rfl, Nat.le_of_ble_eq_true rfl⟩ hl.1 rfl (lv_room (Nat.le_of_ble_eq_true rfl)) dX11_accessed_128 ⟨(Nat.le_of_ble_eq_true rfl), (Nat.le_of_ble_eq_true rfl)⟩ (fun H locs hW => ?_)
      refine lv_istore_n (lv' := [(3, .int r50), (2, .int r25), (0, .ref (ad t i 0)), (1, .int w1)]) hx hb dX11_accessed_131 rfl hl (by decide) rfl (fun ls hl => ?_)
      refine lv_aload_n hx hb dX11_accessed_132 rfl (lv_at hl 2 rfl) ?_
      refine lv_iload_n hx hb dX11_accessed_133 rfl (lv_at hl 1 rfl) ?_
      refine lv_if_ne (tgt := 141) hx hb dX11_accessed_134 (by decide) (fun c52 => ?_) (fun c52 => ?_)
      · replace hf := (if_neg c52).symm.trans hf
        refine lv_iconst (v := 2) hx hb dX11_accessed_141 (by decide) ?_
        refine lv_iload_n hx hb dX11_accessed_142 rfl (lv_at hl 0 rfl) ?_
        obtain ⟨g54, hc53, hf⟩ := bd_some hf
        have hC55 := f11_append_ok l D cy ad ns M t i hI g49 (2 : Int32) r50 g54 hc53
        refine x_vv (n := 2) (As := [.int (2 : Int32), .int r50]) (rest := []) hx hb hml hts hown hK hW hA hC55 (hI.2 0 (by decide)) uI_o (hI.1 0 _) rfl rfl t_863 t_865 p_36 t_14 t_866 rfl (by decide +kernel) rfl rfl ⟨Nat.le_of_ble_eq_true rfl, Nat.le_of_ble_eq_true rfl⟩ hl.1 rfl (lv_room (Nat.le_of_ble_eq_true rfl)) dX11_accessed_143 ⟨(Nat.le_of_ble_eq_true rfl), (Nat.le_of_ble_eq_true rfl)⟩ (fun H locs hW => ?_)
        refine lv_aload_n hx hb dX11_accessed_146 rfl (lv_at hl 2 rfl) ?_
        obtain ⟨g57, hc56, hf⟩ := bd_some hf
        have hC58 := f11_settle_ok l D cy ad ns M t i hI g54 g57 hc56
        refine x_vv (n := 0) (As := []) (rest := []) hx hb hml hts hown hK hW hA hC58 (hI.2 0 (by decide)) uI_o (hI.1 0 _) rfl rfl t_867 t_869 p_37 t_14 t_870 rfl (by decide +kernel) rfl rfl ⟨Nat.le_of_ble_eq_true rfl, Nat.le_of_ble_eq_true rfl⟩ hl.1 rfl (lv_room (Nat.le_of_ble_eq_true rfl)) dX11_accessed_147 ⟨(Nat.le_of_ble_eq_true rfl), (Nat.le_of_ble_eq_true rfl)⟩ (fun H locs hW => ?_)
        refine lv_goto (tgt := 209) hx hb dX11_accessed_150 (by decide) ?_
        exact J209 _ _ _ _ _ _ hf hW (lv_sub hl [2, 3, 1] rfl)
      · replace hf := (if_pos c52).symm.trans hf
        refine lv_iconst (v := 0) hx hb dX11_accessed_137 (by decide) ?_
        refine lv_goto (tgt := 142) hx hb dX11_accessed_138 (by decide) ?_
        refine lv_iload_n hx hb dX11_accessed_142 rfl (lv_at hl 0 rfl) ?_
        obtain ⟨g60, hc59, hf⟩ := bd_some hf
        have hC61 := f11_append_ok l D cy ad ns M t i hI g49 (0 : Int32) r50 g60 hc59
        refine x_vv (n := 2) (As := [.int (0 : Int32), .int r50]) (rest := []) hx hb hml hts hown hK hW hA hC61 (hI.2 0 (by decide)) uI_o (hI.1 0 _) rfl rfl t_863 t_865 p_36 t_14 t_866 rfl (by decide +kernel) rfl rfl ⟨Nat.le_of_ble_eq_true rfl, Nat.le_of_ble_eq_true rfl⟩ hl.1 rfl (lv_room (Nat.le_of_ble_eq_true rfl)) dX11_accessed_143 ⟨(Nat.le_of_ble_eq_true rfl), (Nat.le_of_ble_eq_true rfl)⟩ (fun H locs hW => ?_)
        refine lv_aload_n hx hb dX11_accessed_146 rfl (lv_at hl 2 rfl) ?_
        obtain ⟨g63, hc62, hf⟩ := bd_some hf
        have hC64 := f11_settle_ok l D cy ad ns M t i hI g60 g63 hc62
        refine x_vv (n := 0) (As := []) (rest := []) hx hb hml hts hown hK hW hA hC64 (hI.2 0 (by decide)) uI_o (hI.1 0 _) rfl rfl t_867 t_869 p_37 t_14 t_870 rfl (by decide +kernel) rfl rfl ⟨Nat.le_of_ble_eq_true rfl, Nat.le_of_ble_eq_true rfl⟩ hl.1 rfl (lv_room (Nat.le_of_ble_eq_true rfl)) dX11_accessed_147 ⟨(Nat.le_of_ble_eq_true rfl), (Nat.le_of_ble_eq_true rfl)⟩ (fun H locs hW => ?_)
        refine lv_goto (tgt := 209) hx hb dX11_accessed_150 (by decide) ?_
        exact J209 _ _ _ _ _ _ hf hW (lv_sub hl [2, 3, 1] rfl)
  have J63 : ∀ (w1 : Int32) (g : Sg) (H : Heap) (locs : List Loc) (ls : Array Slot), f11_accessed_j63 w1 g = some (r, m2) → Wl D cy ad ns (Aw ad ns s.heap.size) s.heap (uI M t i g) H locs → lv_has ls 4 [(0, .ref (ad t i 0)), (1, .int w1)] → W p l e { frames := 7, cells := 0, slots := 0, locals := 162 } s m ([.ref (ad t i 0), .int a1] : List Value).toArray below meth c H locs 0 0 (QI below D cy ad ns [.ref (ad t i 0), .int a1] s r (uI M t i m2)) (F0 m 63 ls []) := by
    intro w1 g H locs ls hf hW hl
    unfold f11_accessed_j63 at hf
    refine lv_aload_n hx hb dX11_accessed_63 rfl (lv_at hl 0 rfl) ?_
    refine x_get hx hb hts hown hK hW (hI.2 0 (by decide)) uI_o (hI.1 0 _) rfl inX11 2 (by decide) t_742 rfl dX11_accessed_64 ?_
    refine lv_sipush (v := 1404) hx hb dX11_accessed_67 (by decide) ?_
    refine lv_dup2_11 hx hb dX11_accessed_70 rfl rfl ?_
    obtain ⟨hi137, hf⟩ := rd_some hf
    refine x_iald hx hb hK hW (hI.2 1 (by decide)) uI_o (hI.1 1 _) hi137 dX11_accessed_71 ?_
    generalize g 1 ((1404 : Int32)).toNatClampNeg = v138 at hf ⊢
    refine lv_iconst (v := 1) hx hb dX11_accessed_72 (by decide) ?_
    refine lv_isub hx hb dX11_accessed_73 ?_
    obtain ⟨hi139, hf⟩ := wr_some hf
    refine x_iast hx hb hK hW (hI.2 1 (by decide)) uI_o (fun _ => (hI.1 1 _)) hi139 uC_leaf dX11_accessed_74 (fun H locs hW => ?_)
    generalize (va_up g 1 (upd (g 1) ((1404 : Int32)).toNatClampNeg (v138 - (1 : Int32)))) = g140 at hf hW
    exact J75 _ _ _ _ _ hf hW (lv_sub hl [0, 1] rfl)
  refine lv_aload_n hx hb dX11_accessed_0 rfl (lv_at hl 0 rfl) ?_
  refine x_get hx hb hts hown hK hW (hI.2 0 (by decide)) uI_o (hI.1 0 _) rfl inX11 2 (by decide) t_742 rfl dX11_accessed_1 ?_
  refine lv_sipush (v := 1397) hx hb dX11_accessed_4 (by decide) ?_
  refine lv_dup2_11 hx hb dX11_accessed_7 rfl rfl ?_
  obtain ⟨hi1, hf⟩ := rd_some hf
  refine x_iald hx hb hK hW (hI.2 1 (by decide)) uI_o (hI.1 1 _) hi1 dX11_accessed_8 ?_
  generalize g 1 ((1397 : Int32)).toNatClampNeg = v2 at hf ⊢
  refine lv_iconst (v := 1) hx hb dX11_accessed_9 (by decide) ?_
  refine lv_iadd hx hb dX11_accessed_10 ?_
  obtain ⟨hi3, hf⟩ := wr_some hf
  refine x_iast hx hb hK hW (hI.2 1 (by decide)) uI_o (fun _ => (hI.1 1 _)) hi3 uC_leaf dX11_accessed_11 (fun H locs hW => ?_)
  generalize (va_up g 1 (upd (g 1) ((1397 : Int32)).toNatClampNeg (v2 + (1 : Int32)))) = g4 at hf hW
  refine lv_aload_n hx hb dX11_accessed_12 rfl (lv_at hl 0 rfl) ?_
  refine x_get hx hb hts hown hK hW (hI.2 0 (by decide)) uI_o (hI.1 0 _) rfl inX11 2 (by decide) t_742 rfl dX11_accessed_13 ?_
  refine lv_sipush (v := 1404) hx hb dX11_accessed_16 (by decide) ?_
  obtain ⟨hi5, hf⟩ := rd_some hf
  refine x_iald hx hb hK hW (hI.2 1 (by decide)) uI_o (hI.1 1 _) hi5 dX11_accessed_19 ?_
  generalize g4 1 ((1404 : Int32)).toNatClampNeg = v6 at hf ⊢
  refine lv_sipush (v := 300) hx hb dX11_accessed_20 (by decide) ?_
  refine lv_icmp_ne (tgt := 75) hx hb dX11_accessed_23 (by decide) (fun c7 => ?_) (fun c7 => ?_)
  · replace hf := (if_neg c7).symm.trans hf
    exact J75 _ _ _ _ _ hf hW (lv_sub hl [0, 1] rfl)
  · replace hf := (if_pos c7).symm.trans hf
    refine lv_iconst (v := 1) hx hb dX11_accessed_26 (by decide) ?_
    refine lv_istore_n (lv' := [(2, .int (1 : Int32)), (0, .ref (ad t i 0)), (1, .int a1)]) hx hb dX11_accessed_27 rfl hl (by decide) rfl (fun ls hl => ?_)
    have L28 : ∀ (k : Nat) (w1 : Int32) (w2 : Int32) (g : Sg) (H : Heap) (locs : List Loc) (ls : Array Slot), f11_accessed_l28 k w1 w2 g = some (r, m2) → Wl D cy ad ns (Aw ad ns s.heap.size) s.heap (uI M t i g) H locs → lv_has ls 4 [(0, .ref (ad t i 0)), (1, .int w1), (2, .int w2)] → W p l e { frames := 7, cells := 0, slots := 0, locals := 162 } s m ([.ref (ad t i 0), .int a1] : List Value).toArray below meth c H locs 0 0 (QI below D cy ad ns [.ref (ad t i 0), .int a1] s r (uI M t i m2)) (F0 m 28 ls []) := by
      intro k
      induction k with
      | zero => intro w1 w2 g H locs ls hf; exact absurd hf (by simp [f11_accessed_l28])
      | succ k28 ih28 =>
        intro w1 w2 g H locs ls hf hW hl
        have hf : f11_accessed_b28 (f11_accessed_l28 k28) w1 w2 g = some (r, m2) := hf
        unfold f11_accessed_b28 at hf
        refine lv_iload_n hx hb dX11_accessed_28 rfl (lv_at hl 2 rfl) ?_
        refine lv_sipush (v := 300) hx hb dX11_accessed_29 (by decide) ?_
        refine lv_icmp_ge (tgt := 63) hx hb dX11_accessed_32 (by decide) (fun c8 => ?_) (fun c8 => ?_)
        · replace hf := (if_pos c8).symm.trans hf
          exact J63 _ _ _ _ _ hf hW (lv_sub hl [0, 1] rfl)
        · replace hf := (if_neg c8).symm.trans hf
          refine lv_aload_n hx hb dX11_accessed_35 rfl (lv_at hl 0 rfl) ?_
          refine x_get hx hb hts hown hK hW (hI.2 0 (by decide)) uI_o (hI.1 0 _) rfl inX11 2 (by decide) t_742 rfl dX11_accessed_36 ?_
          refine lv_sipush (v := 1405) hx hb dX11_accessed_39 (by decide) ?_
          refine lv_iload_n hx hb dX11_accessed_42 rfl (lv_at hl 2 rfl) ?_
          refine lv_iadd hx hb dX11_accessed_43 ?_
          refine lv_iconst (v := 1) hx hb dX11_accessed_44 (by decide) ?_
          refine lv_isub hx hb dX11_accessed_45 ?_
          refine lv_aload_n hx hb dX11_accessed_46 rfl (lv_at hl 0 rfl) ?_
          refine x_get hx hb hts hown hK hW (hI.2 0 (by decide)) uI_o (hI.1 0 _) rfl inX11 2 (by decide) t_742 rfl dX11_accessed_47 ?_
          refine lv_sipush (v := 1405) hx hb dX11_accessed_50 (by decide) ?_
          refine lv_iload_n hx hb dX11_accessed_53 rfl (lv_at hl 2 rfl) ?_
          refine lv_iadd hx hb dX11_accessed_54 ?_
          obtain ⟨hi9, hf⟩ := rd_some hf
          refine x_iald hx hb hK hW (hI.2 1 (by decide)) uI_o (hI.1 1 _) hi9 dX11_accessed_55 ?_
          generalize g 1 (((1405 : Int32) + w2)).toNatClampNeg = v10 at hf ⊢
          obtain ⟨hi11, hf⟩ := wr_some hf
          refine x_iast hx hb hK hW (hI.2 1 (by decide)) uI_o (fun _ => (hI.1 1 _)) hi11 uC_leaf dX11_accessed_56 (fun H locs hW => ?_)
          generalize (va_up g 1 (upd (g 1) ((((1405 : Int32) + w2) - (1 : Int32))).toNatClampNeg v10)) = g12 at hf hW
          refine lv_iinc (v := (w2 + (1 : Int32))) (lv' := [(2, .int (w2 + (1 : Int32))), (0, .ref (ad t i 0)), (1, .int w1)]) hx hb dX11_accessed_57 hl (k := 2) rfl (by first | rfl | decide) (by decide) rfl (fun ls hl => ?_)
          refine lv_goto (tgt := 28) hx hb dX11_accessed_60 (by decide) ?_
          exact ih28 _ _ _ _ _ _ hf hW (lv_sub hl [1, 2, 0] rfl)
    exact L28 NF _ _ _ _ _ _ hf hW (lv_sub hl [1, 2, 0] rfl)
def f11_access (a1 : Int32) (g : Sg) : Option (Int32 × Sg) :=
  ((f11_isKey a1).bind (fun r2 => (if r2 = 0 then (some ((-2 : Int32), g)) else (b2 (f11_accessed a1 g) (fun r7 g6 => (some (r7, g6)))))))
set_option maxHeartbeats 4000000 in
set_option maxRecDepth 100000 in
theorem f11_access_ok (l : Launch) (D : va_G) (cy : Nat → ClassId) (ad : Nat → Nat → Nat → Nat) (ns : List (Nat × Nat × Nat)) (M : Me) (t i : Nat) (hI : IsModel cy ad ns t i) (g : Sg) (a1 : Int32) (r : Int32) (m2 : Sg)  (hf : f11_access a1 g = some (r, m2)) : Ci l yX11_access (.code yX11_access cX11_access 2 (some .int) :: tk_tb) { frames := 8, cells := 0, slots := 0, locals := 185 } D cy ad ns [.ref (ad t i 0), .int a1] (uI M t i g) r (uI M t i m2) := by
  refine Ci.of (by decide) (Nat.le_of_ble_eq_true rfl) ?_
  intro p e s m below meth c ls hE hW hl
  obtain ⟨hx, hb, hr, hml, hown, hts, hlk, hK⟩ := hE
  have hA : ∀ q : Nat, s.heap.size ≤ q → Aw ad ns s.heap.size q := fun q h => Or.inr h
  have hl : lv_has ls 2 [(0, .ref (ad t i 0)), (1, .int a1)] := hl
  unfold f11_access at hf
  refine lv_iload_n hx hb dX11_access_0 rfl (lv_at hl 1 rfl) ?_
  obtain ⟨r2, hc1, hf⟩ := bd_some hf
  have hC3 := f11_isKey_ok l D cy ad ns (uI M t i g) a1 r2 hc1
  refine x_si (n := 1) (As := [.int a1]) (rest := []) hx hb hml hts hown hK hW hA hC3 t_800 t_801 t_14 t_802 rfl (by decide +kernel) rfl rfl ⟨Nat.le_of_ble_eq_true rfl, Nat.le_of_ble_eq_true rfl⟩ hl.1 rfl (lv_room (Nat.le_of_ble_eq_true rfl)) dX11_access_1 ⟨(Nat.le_of_ble_eq_true rfl), (Nat.le_of_ble_eq_true rfl)⟩ (fun H locs hW => ?_)
  refine lv_if_eq (tgt := 15) hx hb dX11_access_4 (by decide) (fun c4 => ?_) (fun c4 => ?_)
  · replace hf := (if_pos c4).symm.trans hf
    refine lv_bipush (v := -2) hx hb dX11_access_15 (by decide) ?_
    exact x_iret hx hb hr hlk hK hW (congrArg Prod.fst (Option.some.inj hf)) (congrArg (fun q => (uI M t i (Prod.snd q))) (Option.some.inj hf)) dX11_access_17
  · replace hf := (if_neg c4).symm.trans hf
    refine lv_aload_n hx hb dX11_access_7 rfl (lv_at hl 0 rfl) ?_
    refine lv_iload_n hx hb dX11_access_8 rfl (lv_at hl 1 rfl) ?_
    obtain ⟨r7, g6, hc5, hf⟩ := b2_some hf
    have hC8 := f11_accessed_ok l D cy ad ns M t i hI g a1 r7 g6 hc5
    refine x_vi (n := 1) (As := [.int a1]) (rest := []) hx hb hml hts hown hK hW hA hC8 (hI.2 0 (by decide)) uI_o (hI.1 0 _) rfl rfl t_839 t_841 p_30 t_14 t_842 rfl (by decide +kernel) rfl rfl ⟨Nat.le_of_ble_eq_true rfl, Nat.le_of_ble_eq_true rfl⟩ hl.1 rfl (lv_room (Nat.le_of_ble_eq_true rfl)) dX11_access_9 ⟨(Nat.le_of_ble_eq_true rfl), (Nat.le_of_ble_eq_true rfl)⟩ (fun H locs hW => ?_)
    refine lv_goto (tgt := 17) hx hb dX11_access_12 (by decide) ?_
    exact x_iret hx hb hr hlk hK hW (congrArg Prod.fst (Option.some.inj hf)) (congrArg (fun q => (uI M t i (Prod.snd q))) (Option.some.inj hf)) dX11_access_17
def f11_run_j70 (w4 : Int32) (g : Sg) : Option (Int32 × Sg) :=
  (rd 1805 (g 1) (1398 : Int32) (fun v21 => (some ((v21 - w4), g))))
def f11_run_b43 (rec43 : Int32 → Int32 → Int32 → Int32 → Int32 → Sg → Option (Int32 × Sg)) (w1 : Int32) (w2 : Int32) (w3 : Int32) (w4 : Int32) (w5 : Int32) (g : Sg) : Option (Int32 × Sg) :=
  (if w3 ≤ w5 then (f11_run_j70 w4 g) else (b2 (f11_accessed ((w1 + (w5 * w2)) - (w1 + (w5 * w2)) / (100 : Int32) * (100 : Int32)) g) (fun r18 g17 => (rec43 w1 w2 w3 w4 (w5 + (1 : Int32)) g17))))
def f11_run_l43 : Nat → Int32 → Int32 → Int32 → Int32 → Int32 → Sg → Option (Int32 × Sg)
  | 0 => fun _ _ _ _ _ _ => none
  | k + 1 => f11_run_b43 (f11_run_l43 k)
def f11_run (a1 : Int32) (a2 : Int32) (a3 : Int32) (g : Sg) : Option (Int32 × Sg) :=
  ((f11_isKey a1).bind (fun r2 => (if r2 = 0 then (some ((-2 : Int32), g)) else ((f11_in a2 (0 : Int32) (99 : Int32)).bind (fun r6 => (if r6 = 0 then (some ((-2 : Int32), g)) else ((f11_in a3 (1 : Int32) (100 : Int32)).bind (fun r10 => (if r10 = 0 then (some ((-2 : Int32), g)) else (rd 1805 (g 1) (1398 : Int32) (fun v14 => (f11_run_l43 NF a1 a2 a3 v14 (0 : Int32) g))))))))))))
set_option maxHeartbeats 4000000 in
set_option maxRecDepth 100000 in
theorem f11_run_ok (l : Launch) (D : va_G) (cy : Nat → ClassId) (ad : Nat → Nat → Nat → Nat) (ns : List (Nat × Nat × Nat)) (M : Me) (t i : Nat) (hI : IsModel cy ad ns t i) (g : Sg) (a1 : Int32) (a2 : Int32) (a3 : Int32) (r : Int32) (m2 : Sg)  (hf : f11_run a1 a2 a3 g = some (r, m2)) : Ci l yX11_run (.code yX11_run cX11_run 7 (some .int) :: tk_tb) { frames := 8, cells := 0, slots := 0, locals := 185 } D cy ad ns [.ref (ad t i 0), .int a1, .int a2, .int a3] (uI M t i g) r (uI M t i m2) := by
  refine Ci.of (by decide) (Nat.le_of_ble_eq_true rfl) ?_
  intro p e s m below meth c ls hE hW hl
  obtain ⟨hx, hb, hr, hml, hown, hts, hlk, hK⟩ := hE
  have hA : ∀ q : Nat, s.heap.size ≤ q → Aw ad ns s.heap.size q := fun q h => Or.inr h
  have hl : lv_has ls 7 [(0, .ref (ad t i 0)), (1, .int a1), (2, .int a2), (3, .int a3)] := hl
  unfold f11_run at hf
  have J70 : ∀ (w4 : Int32) (g : Sg) (H : Heap) (locs : List Loc) (ls : Array Slot), f11_run_j70 w4 g = some (r, m2) → Wl D cy ad ns (Aw ad ns s.heap.size) s.heap (uI M t i g) H locs → lv_has ls 7 [(0, .ref (ad t i 0)), (4, .int w4)] → W p l e { frames := 8, cells := 0, slots := 0, locals := 185 } s m ([.ref (ad t i 0), .int a1, .int a2, .int a3] : List Value).toArray below meth c H locs 0 0 (QI below D cy ad ns [.ref (ad t i 0), .int a1, .int a2, .int a3] s r (uI M t i m2)) (F0 m 70 ls []) := by
    intro w4 g H locs ls hf hW hl
    unfold f11_run_j70 at hf
    refine lv_aload_n hx hb dX11_run_70 rfl (lv_at hl 0 rfl) ?_
    refine x_get hx hb hts hown hK hW (hI.2 0 (by decide)) uI_o (hI.1 0 _) rfl inX11 2 (by decide) t_742 rfl dX11_run_71 ?_
    refine lv_sipush (v := 1398) hx hb dX11_run_74 (by decide) ?_
    obtain ⟨hi20, hf⟩ := rd_some hf
    refine x_iald hx hb hK hW (hI.2 1 (by decide)) uI_o (hI.1 1 _) hi20 dX11_run_77 ?_
    generalize g 1 ((1398 : Int32)).toNatClampNeg = v21 at hf ⊢
    refine lv_iload hx hb dX11_run_78 (lv_at hl 1 rfl) ?_
    refine lv_isub hx hb dX11_run_80 ?_
    exact x_iret hx hb hr hlk hK hW (congrArg Prod.fst (Option.some.inj hf)) (congrArg (fun q => (uI M t i (Prod.snd q))) (Option.some.inj hf)) dX11_run_81
  refine lv_iload_n hx hb dX11_run_0 rfl (lv_at hl 1 rfl) ?_
  obtain ⟨r2, hc1, hf⟩ := bd_some hf
  have hC3 := f11_isKey_ok l D cy ad ns (uI M t i g) a1 r2 hc1
  refine x_si (n := 1) (As := [.int a1]) (rest := []) hx hb hml hts hown hK hW hA hC3 t_800 t_801 t_14 t_802 rfl (by decide +kernel) rfl rfl ⟨Nat.le_of_ble_eq_true rfl, Nat.le_of_ble_eq_true rfl⟩ hl.1 rfl (lv_room (Nat.le_of_ble_eq_true rfl)) dX11_run_1 ⟨(Nat.le_of_ble_eq_true rfl), (Nat.le_of_ble_eq_true rfl)⟩ (fun H locs hW => ?_)
  refine lv_if_eq (tgt := 27) hx hb dX11_run_4 (by decide) (fun c4 => ?_) (fun c4 => ?_)
  · replace hf := (if_pos c4).symm.trans hf
    refine lv_bipush (v := -2) hx hb dX11_run_27 (by decide) ?_
    exact x_iret hx hb hr hlk hK hW (congrArg Prod.fst (Option.some.inj hf)) (congrArg (fun q => (uI M t i (Prod.snd q))) (Option.some.inj hf)) dX11_run_29
  · replace hf := (if_neg c4).symm.trans hf
    refine lv_iload_n hx hb dX11_run_7 rfl (lv_at hl 2 rfl) ?_
    refine lv_iconst (v := 0) hx hb dX11_run_8 (by decide) ?_
    refine lv_bipush (v := 99) hx hb dX11_run_9 (by decide) ?_
    obtain ⟨r6, hc5, hf⟩ := bd_some hf
    have hC7 := f11_in_ok l D cy ad ns (uI M t i g) a2 (0 : Int32) (99 : Int32) r6 hc5
    refine x_si (n := 3) (As := [.int a2, .int (0 : Int32), .int (99 : Int32)]) (rest := []) hx hb hml hts hown hK hW hA hC7 t_797 t_798 t_14 t_799 rfl (by decide +kernel) rfl rfl ⟨Nat.le_of_ble_eq_true rfl, Nat.le_of_ble_eq_true rfl⟩ hl.1 rfl (lv_room (Nat.le_of_ble_eq_true rfl)) dX11_run_11 ⟨(Nat.le_of_ble_eq_true rfl), (Nat.le_of_ble_eq_true rfl)⟩ (fun H locs hW => ?_)
    refine lv_if_eq (tgt := 27) hx hb dX11_run_14 (by decide) (fun c8 => ?_) (fun c8 => ?_)
    · replace hf := (if_pos c8).symm.trans hf
      refine lv_bipush (v := -2) hx hb dX11_run_27 (by decide) ?_
      exact x_iret hx hb hr hlk hK hW (congrArg Prod.fst (Option.some.inj hf)) (congrArg (fun q => (uI M t i (Prod.snd q))) (Option.some.inj hf)) dX11_run_29
    · replace hf := (if_neg c8).symm.trans hf
      refine lv_iload_n hx hb dX11_run_17 rfl (lv_at hl 3 rfl) ?_
      refine lv_iconst (v := 1) hx hb dX11_run_18 (by decide) ?_
      refine lv_bipush (v := 100) hx hb dX11_run_19 (by decide) ?_
      obtain ⟨r10, hc9, hf⟩ := bd_some hf
      have hC11 := f11_in_ok l D cy ad ns (uI M t i g) a3 (1 : Int32) (100 : Int32) r10 hc9
      refine x_si (n := 3) (As := [.int a3, .int (1 : Int32), .int (100 : Int32)]) (rest := []) hx hb hml hts hown hK hW hA hC11 t_797 t_798 t_14 t_799 rfl (by decide +kernel) rfl rfl ⟨Nat.le_of_ble_eq_true rfl, Nat.le_of_ble_eq_true rfl⟩ hl.1 rfl (lv_room (Nat.le_of_ble_eq_true rfl)) dX11_run_21 ⟨(Nat.le_of_ble_eq_true rfl), (Nat.le_of_ble_eq_true rfl)⟩ (fun H locs hW => ?_)
      refine lv_if_ne (tgt := 30) hx hb dX11_run_24 (by decide) (fun c12 => ?_) (fun c12 => ?_)
      · replace hf := (if_neg c12).symm.trans hf
        refine lv_aload_n hx hb dX11_run_30 rfl (lv_at hl 0 rfl) ?_
        refine x_get hx hb hts hown hK hW (hI.2 0 (by decide)) uI_o (hI.1 0 _) rfl inX11 2 (by decide) t_742 rfl dX11_run_31 ?_
        refine lv_sipush (v := 1398) hx hb dX11_run_34 (by decide) ?_
        obtain ⟨hi13, hf⟩ := rd_some hf
        refine x_iald hx hb hK hW (hI.2 1 (by decide)) uI_o (hI.1 1 _) hi13 dX11_run_37 ?_
        generalize g 1 ((1398 : Int32)).toNatClampNeg = v14 at hf ⊢
        refine lv_istore (lv' := [(4, .int v14), (0, .ref (ad t i 0)), (1, .int a1), (2, .int a2), (3, .int a3)]) hx hb dX11_run_38 hl (by decide) rfl (fun ls hl => ?_)
        refine lv_iconst (v := 0) hx hb dX11_run_40 (by decide) ?_
        refine lv_istore (lv' := [(5, .int (0 : Int32)), (4, .int v14), (0, .ref (ad t i 0)), (1, .int a1), (2, .int a2), (3, .int a3)]) hx hb dX11_run_41 hl (by decide) rfl (fun ls hl => ?_)
        have L43 : ∀ (k : Nat) (w1 : Int32) (w2 : Int32) (w3 : Int32) (w4 : Int32) (w5 : Int32) (g : Sg) (H : Heap) (locs : List Loc) (ls : Array Slot), f11_run_l43 k w1 w2 w3 w4 w5 g = some (r, m2) → Wl D cy ad ns (Aw ad ns s.heap.size) s.heap (uI M t i g) H locs → lv_has ls 7 [(0, .ref (ad t i 0)), (1, .int w1), (2, .int w2), (3, .int w3), (4, .int w4), (5, .int w5)] → W p l e { frames := 8, cells := 0, slots := 0, locals := 185 } s m ([.ref (ad t i 0), .int a1, .int a2, .int a3] : List Value).toArray below meth c H locs 0 0 (QI below D cy ad ns [.ref (ad t i 0), .int a1, .int a2, .int a3] s r (uI M t i m2)) (F0 m 43 ls []) := by
          intro k
          induction k with
          | zero => intro w1 w2 w3 w4 w5 g H locs ls hf; exact absurd hf (by simp [f11_run_l43])
          | succ k43 ih43 =>
            intro w1 w2 w3 w4 w5 g H locs ls hf hW hl
            have hf : f11_run_b43 (f11_run_l43 k43) w1 w2 w3 w4 w5 g = some (r, m2) := hf
            unfold f11_run_b43 at hf
            refine lv_iload hx hb dX11_run_43 (lv_at hl 5 rfl) ?_
            refine lv_iload_n hx hb dX11_run_45 rfl (lv_at hl 3 rfl) ?_
            refine lv_icmp_ge (tgt := 70) hx hb dX11_run_46 (by decide) (fun c15 => ?_) (fun c15 => ?_)
            · replace hf := (if_pos c15).symm.trans hf
              exact J70 _ _ _ _ _ hf hW (lv_sub hl [0, 4] rfl)
            · replace hf := (if_neg c15).symm.trans hf
              refine lv_aload_n hx hb dX11_run_49 rfl (lv_at hl 0 rfl) ?_
              refine lv_iload_n hx hb dX11_run_50 rfl (lv_at hl 1 rfl) ?_
              refine lv_iload hx hb dX11_run_51 (lv_at hl 5 rfl) ?_
              refine lv_iload_n hx hb dX11_run_53 rfl (lv_at hl 2 rfl) ?_
              refine lv_imul hx hb dX11_run_54 ?_
              refine lv_iadd hx hb dX11_run_55 ?_
              refine lv_bipush (v := 100) hx hb dX11_run_56 (by decide) ?_
              refine lv_irem hx hb dX11_run_58 (by decide) ?_
              obtain ⟨r18, g17, hc16, hf⟩ := b2_some hf
              have hC19 := f11_accessed_ok l D cy ad ns M t i hI g ((w1 + (w5 * w2)) - (w1 + (w5 * w2)) / (100 : Int32) * (100 : Int32)) r18 g17 hc16
              refine x_vi (n := 1) (As := [.int ((w1 + (w5 * w2)) - (w1 + (w5 * w2)) / (100 : Int32) * (100 : Int32))]) (rest := []) hx hb hml hts hown hK hW hA hC19 (hI.2 0 (by decide)) uI_o (hI.1 0 _) rfl rfl t_839 t_841 p_30 t_14 t_842 rfl (by decide +kernel) rfl rfl ⟨Nat.le_of_ble_eq_true rfl, Nat.le_of_ble_eq_true rfl⟩ hl.1 rfl (lv_room (Nat.le_of_ble_eq_true rfl)) dX11_run_59 ⟨(Nat.le_of_ble_eq_true rfl), (Nat.le_of_ble_eq_true rfl)⟩ (fun H locs hW => ?_)
              refine lv_istore (lv' := [(6, .int r18), (0, .ref (ad t i 0)), (1, .int w1), (2, .int w2), (3, .int w3), (4, .int w4), (5, .int w5)]) hx hb dX11_run_62 hl (by decide) rfl (fun ls hl => ?_)
              refine lv_iinc (v := (w5 + (1 : Int32))) (lv' := [(5, .int (w5 + (1 : Int32))), (6, .int r18), (0, .ref (ad t i 0)), (1, .int w1), (2, .int w2), (3, .int w3), (4, .int w4)]) hx hb dX11_run_64 hl (k := 6) rfl (by first | rfl | decide) (by decide) rfl (fun ls hl => ?_)
              refine lv_goto (tgt := 43) hx hb dX11_run_67 (by decide) ?_
              exact ih43 _ _ _ _ _ _ _ _ _ hf hW (lv_sub hl [2, 3, 4, 5, 6, 0] rfl)
        exact L43 NF _ _ _ _ _ _ _ _ _ hf hW (lv_sub hl [2, 3, 4, 5, 1, 0] rfl)
      · replace hf := (if_pos c12).symm.trans hf
        refine lv_bipush (v := -2) hx hb dX11_run_27 (by decide) ?_
        exact x_iret hx hb hr hlk hK hW (congrArg Prod.fst (Option.some.inj hf)) (congrArg (fun q => (uI M t i (Prod.snd q))) (Option.some.inj hf)) dX11_run_29
def f11_add (a1 : Int32) (g : Sg) : Option (Int32 × Sg) :=
  ((f11_isKey a1).bind (fun r2 => (if r2 = 0 then (some ((-2 : Int32), g)) else ((f11_count a1 g).bind (fun g6 => ((f11_estimated g6 a1).bind (fun r9 => (some (r9, g6)))))))))
set_option maxHeartbeats 4000000 in
set_option maxRecDepth 100000 in
theorem f11_add_ok (l : Launch) (D : va_G) (cy : Nat → ClassId) (ad : Nat → Nat → Nat → Nat) (ns : List (Nat × Nat × Nat)) (M : Me) (t i : Nat) (hI : IsModel cy ad ns t i) (g : Sg) (a1 : Int32) (r : Int32) (m2 : Sg)  (hf : f11_add a1 g = some (r, m2)) : Ci l yX11_add (.code yX11_add cX11_add 2 (some .int) :: tk_tb) { frames := 3, cells := 0, slots := 0, locals := 69 } D cy ad ns [.ref (ad t i 0), .int a1] (uI M t i g) r (uI M t i m2) := by
  refine Ci.of (by decide) (Nat.le_of_ble_eq_true rfl) ?_
  intro p e s m below meth c ls hE hW hl
  obtain ⟨hx, hb, hr, hml, hown, hts, hlk, hK⟩ := hE
  have hA : ∀ q : Nat, s.heap.size ≤ q → Aw ad ns s.heap.size q := fun q h => Or.inr h
  have hl : lv_has ls 2 [(0, .ref (ad t i 0)), (1, .int a1)] := hl
  unfold f11_add at hf
  refine lv_iload_n hx hb dX11_add_0 rfl (lv_at hl 1 rfl) ?_
  obtain ⟨r2, hc1, hf⟩ := bd_some hf
  have hC3 := f11_isKey_ok l D cy ad ns (uI M t i g) a1 r2 hc1
  refine x_si (n := 1) (As := [.int a1]) (rest := []) hx hb hml hts hown hK hW hA hC3 t_800 t_801 t_14 t_802 rfl (by decide +kernel) rfl rfl ⟨Nat.le_of_ble_eq_true rfl, Nat.le_of_ble_eq_true rfl⟩ hl.1 rfl (lv_room (Nat.le_of_ble_eq_true rfl)) dX11_add_1 ⟨(Nat.le_of_ble_eq_true rfl), (Nat.le_of_ble_eq_true rfl)⟩ (fun H locs hW => ?_)
  refine lv_if_ne (tgt := 10) hx hb dX11_add_4 (by decide) (fun c4 => ?_) (fun c4 => ?_)
  · replace hf := (if_neg c4).symm.trans hf
    refine lv_aload_n hx hb dX11_add_10 rfl (lv_at hl 0 rfl) ?_
    refine lv_iload_n hx hb dX11_add_11 rfl (lv_at hl 1 rfl) ?_
    obtain ⟨g6, hc5, hf⟩ := bd_some hf
    have hC7 := f11_count_ok l D cy ad ns M t i hI g a1 g6 hc5
    refine x_vv (n := 1) (As := [.int a1]) (rest := []) hx hb hml hts hown hK hW hA hC7 (hI.2 0 (by decide)) uI_o (hI.1 0 _) rfl rfl t_843 t_845 p_31 t_14 t_846 rfl (by decide +kernel) rfl rfl ⟨Nat.le_of_ble_eq_true rfl, Nat.le_of_ble_eq_true rfl⟩ hl.1 rfl (lv_room (Nat.le_of_ble_eq_true rfl)) dX11_add_12 ⟨(Nat.le_of_ble_eq_true rfl), (Nat.le_of_ble_eq_true rfl)⟩ (fun H locs hW => ?_)
    refine lv_aload_n hx hb dX11_add_15 rfl (lv_at hl 0 rfl) ?_
    refine lv_iload_n hx hb dX11_add_16 rfl (lv_at hl 1 rfl) ?_
    obtain ⟨r9, hc8, hf⟩ := bd_some hf
    have hC10 := f11_estimated_ok l D cy ad ns M t i hI g6 a1 r9 hc8
    refine x_vi (n := 1) (As := [.int a1]) (rest := []) hx hb hml hts hown hK hW hA hC10 (hI.2 0 (by decide)) uI_o (hI.1 0 _) rfl rfl t_887 t_889 p_42 t_14 t_890 rfl (by decide +kernel) rfl rfl ⟨Nat.le_of_ble_eq_true rfl, Nat.le_of_ble_eq_true rfl⟩ hl.1 rfl (lv_room (Nat.le_of_ble_eq_true rfl)) dX11_add_17 ⟨(Nat.le_of_ble_eq_true rfl), (Nat.le_of_ble_eq_true rfl)⟩ (fun H locs hW => ?_)
    exact x_iret hx hb hr hlk hK hW (congrArg Prod.fst (Option.some.inj hf)) (congrArg (fun q => (uI M t i (Prod.snd q))) (Option.some.inj hf)) dX11_add_20
  · replace hf := (if_pos c4).symm.trans hf
    refine lv_bipush (v := -2) hx hb dX11_add_7 (by decide) ?_
    exact x_iret hx hb hr hlk hK hW (congrArg Prod.fst (Option.some.inj hf)) (congrArg (fun q => (uI M t i (Prod.snd q))) (Option.some.inj hf)) dX11_add_9
def f11_estimate (g : Sg) (a1 : Int32) : Option Int32 :=
  ((f11_isKey a1).bind (fun r2 => (if r2 = 0 then (some (-2 : Int32)) else ((f11_estimated g a1).bind (fun r6 => (some r6))))))
set_option maxHeartbeats 4000000 in
set_option maxRecDepth 100000 in
theorem f11_estimate_ok (l : Launch) (D : va_G) (cy : Nat → ClassId) (ad : Nat → Nat → Nat → Nat) (ns : List (Nat × Nat × Nat)) (M : Me) (t i : Nat) (hI : IsModel cy ad ns t i) (g : Sg) (a1 : Int32) (r : Int32)  (hf : f11_estimate g a1 = some r) : Ci l yX11_estimate (.code yX11_estimate cX11_estimate 2 (some .int) :: tk_tb) { frames := 3, cells := 0, slots := 0, locals := 66 } D cy ad ns [.ref (ad t i 0), .int a1] (uI M t i g) r (uI M t i g) := by
  refine Ci.of (by decide) (Nat.le_of_ble_eq_true rfl) ?_
  intro p e s m below meth c ls hE hW hl
  obtain ⟨hx, hb, hr, hml, hown, hts, hlk, hK⟩ := hE
  have hA : ∀ q : Nat, s.heap.size ≤ q → Aw ad ns s.heap.size q := fun q h => Or.inr h
  have hl : lv_has ls 2 [(0, .ref (ad t i 0)), (1, .int a1)] := hl
  unfold f11_estimate at hf
  refine lv_iload_n hx hb dX11_estimate_0 rfl (lv_at hl 1 rfl) ?_
  obtain ⟨r2, hc1, hf⟩ := bd_some hf
  have hC3 := f11_isKey_ok l D cy ad ns (uI M t i g) a1 r2 hc1
  refine x_si (n := 1) (As := [.int a1]) (rest := []) hx hb hml hts hown hK hW hA hC3 t_800 t_801 t_14 t_802 rfl (by decide +kernel) rfl rfl ⟨Nat.le_of_ble_eq_true rfl, Nat.le_of_ble_eq_true rfl⟩ hl.1 rfl (lv_room (Nat.le_of_ble_eq_true rfl)) dX11_estimate_1 ⟨(Nat.le_of_ble_eq_true rfl), (Nat.le_of_ble_eq_true rfl)⟩ (fun H locs hW => ?_)
  refine lv_if_eq (tgt := 15) hx hb dX11_estimate_4 (by decide) (fun c4 => ?_) (fun c4 => ?_)
  · replace hf := (if_pos c4).symm.trans hf
    refine lv_bipush (v := -2) hx hb dX11_estimate_15 (by decide) ?_
    exact x_iret hx hb hr hlk hK hW (Option.some.inj hf) rfl dX11_estimate_17
  · replace hf := (if_neg c4).symm.trans hf
    refine lv_aload_n hx hb dX11_estimate_7 rfl (lv_at hl 0 rfl) ?_
    refine lv_iload_n hx hb dX11_estimate_8 rfl (lv_at hl 1 rfl) ?_
    obtain ⟨r6, hc5, hf⟩ := bd_some hf
    have hC7 := f11_estimated_ok l D cy ad ns M t i hI g a1 r6 hc5
    refine x_vi (n := 1) (As := [.int a1]) (rest := []) hx hb hml hts hown hK hW hA hC7 (hI.2 0 (by decide)) uI_o (hI.1 0 _) rfl rfl t_887 t_889 p_42 t_14 t_890 rfl (by decide +kernel) rfl rfl ⟨Nat.le_of_ble_eq_true rfl, Nat.le_of_ble_eq_true rfl⟩ hl.1 rfl (lv_room (Nat.le_of_ble_eq_true rfl)) dX11_estimate_9 ⟨(Nat.le_of_ble_eq_true rfl), (Nat.le_of_ble_eq_true rfl)⟩ (fun H locs hW => ?_)
    refine lv_goto (tgt := 17) hx hb dX11_estimate_12 (by decide) ?_
    exact x_iret hx hb hr hlk hK hW (Option.some.inj hf) rfl dX11_estimate_17
def f11_counter (g : Sg) (a1 : Int32) (a2 : Int32) : Option Int32 :=
  ((f11_in a1 (0 : Int32) ((g 0 0) - (1 : Int32))).bind (fun r2 => (if r2 = 0 then (some (-2 : Int32)) else ((f11_in a2 (0 : Int32) (63 : Int32)).bind (fun r6 => (if r6 = 0 then (some (-2 : Int32)) else (rd 1805 (g 1) (((606 : Int32) + ((64 : Int32) * a1)) + a2) (fun v10 => (some v10)))))))))
set_option maxHeartbeats 4000000 in
set_option maxRecDepth 100000 in
theorem f11_counter_ok (l : Launch) (D : va_G) (cy : Nat → ClassId) (ad : Nat → Nat → Nat → Nat) (ns : List (Nat × Nat × Nat)) (M : Me) (t i : Nat) (hI : IsModel cy ad ns t i) (g : Sg) (a1 : Int32) (a2 : Int32) (r : Int32)  (hf : f11_counter g a1 a2 = some r) : Ci l yX11_counter (.code yX11_counter cX11_counter 3 (some .int) :: tk_tb) { frames := 1, cells := 0, slots := 0, locals := 22 } D cy ad ns [.ref (ad t i 0), .int a1, .int a2] (uI M t i g) r (uI M t i g) := by
  refine Ci.of (by decide) (Nat.le_of_ble_eq_true rfl) ?_
  intro p e s m below meth c ls hE hW hl
  obtain ⟨hx, hb, hr, hml, hown, hts, hlk, hK⟩ := hE
  have hA : ∀ q : Nat, s.heap.size ≤ q → Aw ad ns s.heap.size q := fun q h => Or.inr h
  have hl : lv_has ls 3 [(0, .ref (ad t i 0)), (1, .int a1), (2, .int a2)] := hl
  unfold f11_counter at hf
  refine lv_iload_n hx hb dX11_counter_0 rfl (lv_at hl 1 rfl) ?_
  refine lv_iconst (v := 0) hx hb dX11_counter_1 (by decide) ?_
  refine lv_aload_n hx hb dX11_counter_2 rfl (lv_at hl 0 rfl) ?_
  refine x_get hx hb hts hown hK hW (hI.2 0 (by decide)) uI_o (hI.1 0 _) rfl inX11 0 (by decide) t_740 rfl dX11_counter_3 ?_
  refine lv_iconst (v := 1) hx hb dX11_counter_6 (by decide) ?_
  refine lv_isub hx hb dX11_counter_7 ?_
  obtain ⟨r2, hc1, hf⟩ := bd_some hf
  have hC3 := f11_in_ok l D cy ad ns (uI M t i g) a1 (0 : Int32) ((g 0 0) - (1 : Int32)) r2 hc1
  refine x_si (n := 3) (As := [.int a1, .int (0 : Int32), .int ((g 0 0) - (1 : Int32))]) (rest := []) hx hb hml hts hown hK hW hA hC3 t_797 t_798 t_14 t_799 rfl (by decide +kernel) rfl rfl ⟨Nat.le_of_ble_eq_true rfl, Nat.le_of_ble_eq_true rfl⟩ hl.1 rfl (lv_room (Nat.le_of_ble_eq_true rfl)) dX11_counter_8 ⟨(Nat.le_of_ble_eq_true rfl), (Nat.le_of_ble_eq_true rfl)⟩ (fun H locs hW => ?_)
  refine lv_if_eq (tgt := 42) hx hb dX11_counter_11 (by decide) (fun c4 => ?_) (fun c4 => ?_)
  · replace hf := (if_pos c4).symm.trans hf
    refine lv_bipush (v := -2) hx hb dX11_counter_42 (by decide) ?_
    exact x_iret hx hb hr hlk hK hW (Option.some.inj hf) rfl dX11_counter_44
  · replace hf := (if_neg c4).symm.trans hf
    refine lv_iload_n hx hb dX11_counter_14 rfl (lv_at hl 2 rfl) ?_
    refine lv_iconst (v := 0) hx hb dX11_counter_15 (by decide) ?_
    refine lv_bipush (v := 63) hx hb dX11_counter_16 (by decide) ?_
    obtain ⟨r6, hc5, hf⟩ := bd_some hf
    have hC7 := f11_in_ok l D cy ad ns (uI M t i g) a2 (0 : Int32) (63 : Int32) r6 hc5
    refine x_si (n := 3) (As := [.int a2, .int (0 : Int32), .int (63 : Int32)]) (rest := []) hx hb hml hts hown hK hW hA hC7 t_797 t_798 t_14 t_799 rfl (by decide +kernel) rfl rfl ⟨Nat.le_of_ble_eq_true rfl, Nat.le_of_ble_eq_true rfl⟩ hl.1 rfl (lv_room (Nat.le_of_ble_eq_true rfl)) dX11_counter_18 ⟨(Nat.le_of_ble_eq_true rfl), (Nat.le_of_ble_eq_true rfl)⟩ (fun H locs hW => ?_)
    refine lv_if_eq (tgt := 42) hx hb dX11_counter_21 (by decide) (fun c8 => ?_) (fun c8 => ?_)
    · replace hf := (if_pos c8).symm.trans hf
      refine lv_bipush (v := -2) hx hb dX11_counter_42 (by decide) ?_
      exact x_iret hx hb hr hlk hK hW (Option.some.inj hf) rfl dX11_counter_44
    · replace hf := (if_neg c8).symm.trans hf
      refine lv_aload_n hx hb dX11_counter_24 rfl (lv_at hl 0 rfl) ?_
      refine x_get hx hb hts hown hK hW (hI.2 0 (by decide)) uI_o (hI.1 0 _) rfl inX11 2 (by decide) t_742 rfl dX11_counter_25 ?_
      refine lv_sipush (v := 606) hx hb dX11_counter_28 (by decide) ?_
      refine lv_bipush (v := 64) hx hb dX11_counter_31 (by decide) ?_
      refine lv_iload_n hx hb dX11_counter_33 rfl (lv_at hl 1 rfl) ?_
      refine lv_imul hx hb dX11_counter_34 ?_
      refine lv_iadd hx hb dX11_counter_35 ?_
      refine lv_iload_n hx hb dX11_counter_36 rfl (lv_at hl 2 rfl) ?_
      refine lv_iadd hx hb dX11_counter_37 ?_
      obtain ⟨hi9, hf⟩ := rd_some hf
      refine x_iald hx hb hK hW (hI.2 1 (by decide)) uI_o (hI.1 1 _) hi9 dX11_counter_38 ?_
      generalize g 1 ((((606 : Int32) + ((64 : Int32) * a1)) + a2)).toNatClampNeg = v10 at hf ⊢
      refine lv_goto (tgt := 44) hx hb dX11_counter_39 (by decide) ?_
      exact x_iret hx hb hr hlk hK hW (Option.some.inj hf) rfl dX11_counter_44
def f11_bit (g : Sg) (a1 : Int32) : Option Int32 :=
  ((f11_in a1 (0 : Int32) (127 : Int32)).bind (fun r2 => (if r2 = 0 then (some (-2 : Int32)) else (rd 1805 (g 1) ((862 : Int32) + a1) (fun v6 => (some v6))))))
set_option maxHeartbeats 4000000 in
set_option maxRecDepth 100000 in
theorem f11_bit_ok (l : Launch) (D : va_G) (cy : Nat → ClassId) (ad : Nat → Nat → Nat → Nat) (ns : List (Nat × Nat × Nat)) (M : Me) (t i : Nat) (hI : IsModel cy ad ns t i) (g : Sg) (a1 : Int32) (r : Int32)  (hf : f11_bit g a1 = some r) : Ci l yX11_bit (.code yX11_bit cX11_bit 2 (some .int) :: tk_tb) { frames := 1, cells := 0, slots := 0, locals := 22 } D cy ad ns [.ref (ad t i 0), .int a1] (uI M t i g) r (uI M t i g) := by
  refine Ci.of (by decide) (Nat.le_of_ble_eq_true rfl) ?_
  intro p e s m below meth c ls hE hW hl
  obtain ⟨hx, hb, hr, hml, hown, hts, hlk, hK⟩ := hE
  have hA : ∀ q : Nat, s.heap.size ≤ q → Aw ad ns s.heap.size q := fun q h => Or.inr h
  have hl : lv_has ls 2 [(0, .ref (ad t i 0)), (1, .int a1)] := hl
  unfold f11_bit at hf
  refine lv_iload_n hx hb dX11_bit_0 rfl (lv_at hl 1 rfl) ?_
  refine lv_iconst (v := 0) hx hb dX11_bit_1 (by decide) ?_
  refine lv_bipush (v := 127) hx hb dX11_bit_2 (by decide) ?_
  obtain ⟨r2, hc1, hf⟩ := bd_some hf
  have hC3 := f11_in_ok l D cy ad ns (uI M t i g) a1 (0 : Int32) (127 : Int32) r2 hc1
  refine x_si (n := 3) (As := [.int a1, .int (0 : Int32), .int (127 : Int32)]) (rest := []) hx hb hml hts hown hK hW hA hC3 t_797 t_798 t_14 t_799 rfl (by decide +kernel) rfl rfl ⟨Nat.le_of_ble_eq_true rfl, Nat.le_of_ble_eq_true rfl⟩ hl.1 rfl (lv_room (Nat.le_of_ble_eq_true rfl)) dX11_bit_4 ⟨(Nat.le_of_ble_eq_true rfl), (Nat.le_of_ble_eq_true rfl)⟩ (fun H locs hW => ?_)
  refine lv_if_eq (tgt := 23) hx hb dX11_bit_7 (by decide) (fun c4 => ?_) (fun c4 => ?_)
  · replace hf := (if_pos c4).symm.trans hf
    refine lv_bipush (v := -2) hx hb dX11_bit_23 (by decide) ?_
    exact x_iret hx hb hr hlk hK hW (Option.some.inj hf) rfl dX11_bit_25
  · replace hf := (if_neg c4).symm.trans hf
    refine lv_aload_n hx hb dX11_bit_10 rfl (lv_at hl 0 rfl) ?_
    refine x_get hx hb hts hown hK hW (hI.2 0 (by decide)) uI_o (hI.1 0 _) rfl inX11 2 (by decide) t_742 rfl dX11_bit_11 ?_
    refine lv_sipush (v := 862) hx hb dX11_bit_14 (by decide) ?_
    refine lv_iload_n hx hb dX11_bit_17 rfl (lv_at hl 1 rfl) ?_
    refine lv_iadd hx hb dX11_bit_18 ?_
    obtain ⟨hi5, hf⟩ := rd_some hf
    refine x_iald hx hb hK hW (hI.2 1 (by decide)) uI_o (hI.1 1 _) hi5 dX11_bit_19 ?_
    generalize g 1 (((862 : Int32) + a1)).toNatClampNeg = v6 at hf ⊢
    refine lv_goto (tgt := 25) hx hb dX11_bit_20 (by decide) ?_
    exact x_iret hx hb hr hlk hK hW (Option.some.inj hf) rfl dX11_bit_25
def f11_remove (a1 : Int32) (g : Sg) : Option (Int32 × Sg) :=
  ((f11_isKey a1).bind (fun r2 => (if r2 = 0 then (some ((-2 : Int32), g)) else ((f11_partOf g a1).bind (fun r6 => (if r6 < 0 then (some (r6, g)) else ((f11_indexOf g r6 a1).bind (fun r10 => (b2 (f11_take r6 r10 g) (fun r14 g13 => (some (r6, g13))))))))))))
set_option maxHeartbeats 4000000 in
set_option maxRecDepth 100000 in
theorem f11_remove_ok (l : Launch) (D : va_G) (cy : Nat → ClassId) (ad : Nat → Nat → Nat → Nat) (ns : List (Nat × Nat × Nat)) (M : Me) (t i : Nat) (hI : IsModel cy ad ns t i) (g : Sg) (a1 : Int32) (r : Int32) (m2 : Sg)  (hf : f11_remove a1 g = some (r, m2)) : Ci l yX11_remove (.code yX11_remove cX11_remove 4 (some .int) :: tk_tb) { frames := 3, cells := 0, slots := 0, locals := 67 } D cy ad ns [.ref (ad t i 0), .int a1] (uI M t i g) r (uI M t i m2) := by
  refine Ci.of (by decide) (Nat.le_of_ble_eq_true rfl) ?_
  intro p e s m below meth c ls hE hW hl
  obtain ⟨hx, hb, hr, hml, hown, hts, hlk, hK⟩ := hE
  have hA : ∀ q : Nat, s.heap.size ≤ q → Aw ad ns s.heap.size q := fun q h => Or.inr h
  have hl : lv_has ls 4 [(0, .ref (ad t i 0)), (1, .int a1)] := hl
  unfold f11_remove at hf
  refine lv_iload_n hx hb dX11_remove_0 rfl (lv_at hl 1 rfl) ?_
  obtain ⟨r2, hc1, hf⟩ := bd_some hf
  have hC3 := f11_isKey_ok l D cy ad ns (uI M t i g) a1 r2 hc1
  refine x_si (n := 1) (As := [.int a1]) (rest := []) hx hb hml hts hown hK hW hA hC3 t_800 t_801 t_14 t_802 rfl (by decide +kernel) rfl rfl ⟨Nat.le_of_ble_eq_true rfl, Nat.le_of_ble_eq_true rfl⟩ hl.1 rfl (lv_room (Nat.le_of_ble_eq_true rfl)) dX11_remove_1 ⟨(Nat.le_of_ble_eq_true rfl), (Nat.le_of_ble_eq_true rfl)⟩ (fun H locs hW => ?_)
  refine lv_if_ne (tgt := 10) hx hb dX11_remove_4 (by decide) (fun c4 => ?_) (fun c4 => ?_)
  · replace hf := (if_neg c4).symm.trans hf
    refine lv_aload_n hx hb dX11_remove_10 rfl (lv_at hl 0 rfl) ?_
    refine lv_iload_n hx hb dX11_remove_11 rfl (lv_at hl 1 rfl) ?_
    obtain ⟨r6, hc5, hf⟩ := bd_some hf
    have hC7 := f11_partOf_ok l D cy ad ns M t i hI g a1 r6 hc5
    refine x_vi (n := 1) (As := [.int a1]) (rest := []) hx hb hml hts hown hK hW hA hC7 (hI.2 0 (by decide)) uI_o (hI.1 0 _) rfl rfl t_819 t_821 p_26 t_14 t_822 rfl (by decide +kernel) rfl rfl ⟨Nat.le_of_ble_eq_true rfl, Nat.le_of_ble_eq_true rfl⟩ hl.1 rfl (lv_room (Nat.le_of_ble_eq_true rfl)) dX11_remove_12 ⟨(Nat.le_of_ble_eq_true rfl), (Nat.le_of_ble_eq_true rfl)⟩ (fun H locs hW => ?_)
    refine lv_istore_n (lv' := [(2, .int r6), (0, .ref (ad t i 0)), (1, .int a1)]) hx hb dX11_remove_15 rfl hl (by decide) rfl (fun ls hl => ?_)
    refine lv_iload_n hx hb dX11_remove_16 rfl (lv_at hl 0 rfl) ?_
    refine lv_if_lt (tgt := 32) hx hb dX11_remove_17 (by decide) (fun c8 => ?_) (fun c8 => ?_)
    · replace hf := (if_pos c8).symm.trans hf
      refine lv_iload_n hx hb dX11_remove_32 rfl (lv_at hl 0 rfl) ?_
      exact x_iret hx hb hr hlk hK hW (congrArg Prod.fst (Option.some.inj hf)) (congrArg (fun q => (uI M t i (Prod.snd q))) (Option.some.inj hf)) dX11_remove_33
    · replace hf := (if_neg c8).symm.trans hf
      refine lv_aload_n hx hb dX11_remove_20 rfl (lv_at hl 1 rfl) ?_
      refine lv_iload_n hx hb dX11_remove_21 rfl (lv_at hl 0 rfl) ?_
      refine lv_aload_n hx hb dX11_remove_22 rfl (lv_at hl 1 rfl) ?_
      refine lv_iload_n hx hb dX11_remove_23 rfl (lv_at hl 0 rfl) ?_
      refine lv_iload_n hx hb dX11_remove_24 rfl (lv_at hl 2 rfl) ?_
      obtain ⟨r10, hc9, hf⟩ := bd_some hf
      have hC11 := f11_indexOf_ok l D cy ad ns M t i hI g r6 a1 r10 hc9
      refine x_vi (n := 2) (As := [.int r6, .int a1]) (rest := [.int r6, .ref (ad t i 0)]) hx hb hml hts hown hK hW hA hC11 (hI.2 0 (by decide)) uI_o (hI.1 0 _) rfl rfl t_823 t_825 p_27 t_14 t_826 rfl (by decide +kernel) rfl rfl ⟨Nat.le_of_ble_eq_true rfl, Nat.le_of_ble_eq_true rfl⟩ hl.1 rfl (lv_room (Nat.le_of_ble_eq_true rfl)) dX11_remove_25 ⟨(Nat.le_of_ble_eq_true rfl), (Nat.le_of_ble_eq_true rfl)⟩ (fun H locs hW => ?_)
      obtain ⟨r14, g13, hc12, hf⟩ := b2_some hf
      have hC15 := f11_take_ok l D cy ad ns M t i hI g r6 r10 r14 g13 hc12
      refine x_vi (n := 2) (As := [.int r6, .int r10]) (rest := []) hx hb hml hts hown hK hW hA hC15 (hI.2 0 (by decide)) uI_o (hI.1 0 _) rfl rfl t_859 t_861 p_35 t_14 t_862 rfl (by decide +kernel) rfl rfl ⟨Nat.le_of_ble_eq_true rfl, Nat.le_of_ble_eq_true rfl⟩ hl.1 rfl (lv_room (Nat.le_of_ble_eq_true rfl)) dX11_remove_28 ⟨(Nat.le_of_ble_eq_true rfl), (Nat.le_of_ble_eq_true rfl)⟩ (fun H locs hW => ?_)
      refine lv_istore_n (lv' := [(3, .int r14), (2, .int r6), (0, .ref (ad t i 0)), (1, .int a1)]) hx hb dX11_remove_31 rfl hl (by decide) rfl (fun ls hl => ?_)
      refine lv_iload_n hx hb dX11_remove_32 rfl (lv_at hl 1 rfl) ?_
      exact x_iret hx hb hr hlk hK hW (congrArg Prod.fst (Option.some.inj hf)) (congrArg (fun q => (uI M t i (Prod.snd q))) (Option.some.inj hf)) dX11_remove_33
  · replace hf := (if_pos c4).symm.trans hf
    refine lv_bipush (v := -2) hx hb dX11_remove_7 (by decide) ?_
    exact x_iret hx hb hr hlk hK hW (congrArg Prod.fst (Option.some.inj hf)) (congrArg (fun q => (uI M t i (Prod.snd q))) (Option.some.inj hf)) dX11_remove_9
def f11_where (g : Sg) (a1 : Int32) : Option Int32 :=
  ((f11_isKey a1).bind (fun r2 => (if r2 = 0 then (some (-2 : Int32)) else ((f11_partOf g a1).bind (fun r6 => (some r6))))))
set_option maxHeartbeats 4000000 in
set_option maxRecDepth 100000 in
theorem f11_where_ok (l : Launch) (D : va_G) (cy : Nat → ClassId) (ad : Nat → Nat → Nat → Nat) (ns : List (Nat × Nat × Nat)) (M : Me) (t i : Nat) (hI : IsModel cy ad ns t i) (g : Sg) (a1 : Int32) (r : Int32)  (hf : f11_where g a1 = some r) : Ci l yX11_where (.code yX11_where cX11_where 2 (some .int) :: tk_tb) { frames := 3, cells := 0, slots := 0, locals := 67 } D cy ad ns [.ref (ad t i 0), .int a1] (uI M t i g) r (uI M t i g) := by
  refine Ci.of (by decide) (Nat.le_of_ble_eq_true rfl) ?_
  intro p e s m below meth c ls hE hW hl
  obtain ⟨hx, hb, hr, hml, hown, hts, hlk, hK⟩ := hE
  have hA : ∀ q : Nat, s.heap.size ≤ q → Aw ad ns s.heap.size q := fun q h => Or.inr h
  have hl : lv_has ls 2 [(0, .ref (ad t i 0)), (1, .int a1)] := hl
  unfold f11_where at hf
  refine lv_iload_n hx hb dX11_where_0 rfl (lv_at hl 1 rfl) ?_
  obtain ⟨r2, hc1, hf⟩ := bd_some hf
  have hC3 := f11_isKey_ok l D cy ad ns (uI M t i g) a1 r2 hc1
  refine x_si (n := 1) (As := [.int a1]) (rest := []) hx hb hml hts hown hK hW hA hC3 t_800 t_801 t_14 t_802 rfl (by decide +kernel) rfl rfl ⟨Nat.le_of_ble_eq_true rfl, Nat.le_of_ble_eq_true rfl⟩ hl.1 rfl (lv_room (Nat.le_of_ble_eq_true rfl)) dX11_where_1 ⟨(Nat.le_of_ble_eq_true rfl), (Nat.le_of_ble_eq_true rfl)⟩ (fun H locs hW => ?_)
  refine lv_if_eq (tgt := 15) hx hb dX11_where_4 (by decide) (fun c4 => ?_) (fun c4 => ?_)
  · replace hf := (if_pos c4).symm.trans hf
    refine lv_bipush (v := -2) hx hb dX11_where_15 (by decide) ?_
    exact x_iret hx hb hr hlk hK hW (Option.some.inj hf) rfl dX11_where_17
  · replace hf := (if_neg c4).symm.trans hf
    refine lv_aload_n hx hb dX11_where_7 rfl (lv_at hl 0 rfl) ?_
    refine lv_iload_n hx hb dX11_where_8 rfl (lv_at hl 1 rfl) ?_
    obtain ⟨r6, hc5, hf⟩ := bd_some hf
    have hC7 := f11_partOf_ok l D cy ad ns M t i hI g a1 r6 hc5
    refine x_vi (n := 1) (As := [.int a1]) (rest := []) hx hb hml hts hown hK hW hA hC7 (hI.2 0 (by decide)) uI_o (hI.1 0 _) rfl rfl t_819 t_821 p_26 t_14 t_822 rfl (by decide +kernel) rfl rfl ⟨Nat.le_of_ble_eq_true rfl, Nat.le_of_ble_eq_true rfl⟩ hl.1 rfl (lv_room (Nat.le_of_ble_eq_true rfl)) dX11_where_9 ⟨(Nat.le_of_ble_eq_true rfl), (Nat.le_of_ble_eq_true rfl)⟩ (fun H locs hW => ?_)
    refine lv_goto (tgt := 17) hx hb dX11_where_12 (by decide) ?_
    exact x_iret hx hb hr hlk hK hW (Option.some.inj hf) rfl dX11_where_17
def f11_key (g : Sg) (a1 : Int32) (a2 : Int32) : Option Int32 :=
  ((f11_in a1 (0 : Int32) (2 : Int32)).bind (fun r2 => (if r2 = 0 then (some (-2 : Int32)) else ((f11_length g a1).bind (fun r6 => ((f11_in a2 (0 : Int32) (r6 - (1 : Int32))).bind (fun r9 => (if r9 = 0 then (some (-1 : Int32)) else ((f11_keyAt g a1 a2).bind (fun r13 => (some r13)))))))))))
set_option maxHeartbeats 4000000 in
set_option maxRecDepth 100000 in
theorem f11_key_ok (l : Launch) (D : va_G) (cy : Nat → ClassId) (ad : Nat → Nat → Nat → Nat) (ns : List (Nat × Nat × Nat)) (M : Me) (t i : Nat) (hI : IsModel cy ad ns t i) (g : Sg) (a1 : Int32) (a2 : Int32) (r : Int32)  (hf : f11_key g a1 a2 = some r) : Ci l yX11_key (.code yX11_key cX11_key 3 (some .int) :: tk_tb) { frames := 1, cells := 0, slots := 0, locals := 22 } D cy ad ns [.ref (ad t i 0), .int a1, .int a2] (uI M t i g) r (uI M t i g) := by
  refine Ci.of (by decide) (Nat.le_of_ble_eq_true rfl) ?_
  intro p e s m below meth c ls hE hW hl
  obtain ⟨hx, hb, hr, hml, hown, hts, hlk, hK⟩ := hE
  have hA : ∀ q : Nat, s.heap.size ≤ q → Aw ad ns s.heap.size q := fun q h => Or.inr h
  have hl : lv_has ls 3 [(0, .ref (ad t i 0)), (1, .int a1), (2, .int a2)] := hl
  unfold f11_key at hf
  refine lv_iload_n hx hb dX11_key_0 rfl (lv_at hl 1 rfl) ?_
  refine lv_iconst (v := 0) hx hb dX11_key_1 (by decide) ?_
  refine lv_iconst (v := 2) hx hb dX11_key_2 (by decide) ?_
  obtain ⟨r2, hc1, hf⟩ := bd_some hf
  have hC3 := f11_in_ok l D cy ad ns (uI M t i g) a1 (0 : Int32) (2 : Int32) r2 hc1
  refine x_si (n := 3) (As := [.int a1, .int (0 : Int32), .int (2 : Int32)]) (rest := []) hx hb hml hts hown hK hW hA hC3 t_797 t_798 t_14 t_799 rfl (by decide +kernel) rfl rfl ⟨Nat.le_of_ble_eq_true rfl, Nat.le_of_ble_eq_true rfl⟩ hl.1 rfl (lv_room (Nat.le_of_ble_eq_true rfl)) dX11_key_3 ⟨(Nat.le_of_ble_eq_true rfl), (Nat.le_of_ble_eq_true rfl)⟩ (fun H locs hW => ?_)
  refine lv_if_ne (tgt := 12) hx hb dX11_key_6 (by decide) (fun c4 => ?_) (fun c4 => ?_)
  · replace hf := (if_neg c4).symm.trans hf
    refine lv_iload_n hx hb dX11_key_12 rfl (lv_at hl 2 rfl) ?_
    refine lv_iconst (v := 0) hx hb dX11_key_13 (by decide) ?_
    refine lv_aload_n hx hb dX11_key_14 rfl (lv_at hl 0 rfl) ?_
    refine lv_iload_n hx hb dX11_key_15 rfl (lv_at hl 1 rfl) ?_
    obtain ⟨r6, hc5, hf⟩ := bd_some hf
    have hC7 := f11_length_ok l D cy ad ns M t i hI g a1 r6 hc5
    refine x_vi (n := 1) (As := [.int a1]) (rest := [.int (0 : Int32), .int a2]) hx hb hml hts hown hK hW hA hC7 (hI.2 0 (by decide)) uI_o (hI.1 0 _) rfl rfl t_827 t_829 p_28 t_14 t_830 rfl (by decide +kernel) rfl rfl ⟨Nat.le_of_ble_eq_true rfl, Nat.le_of_ble_eq_true rfl⟩ hl.1 rfl (lv_room (Nat.le_of_ble_eq_true rfl)) dX11_key_16 ⟨(Nat.le_of_ble_eq_true rfl), (Nat.le_of_ble_eq_true rfl)⟩ (fun H locs hW => ?_)
    refine lv_iconst (v := 1) hx hb dX11_key_19 (by decide) ?_
    refine lv_isub hx hb dX11_key_20 ?_
    obtain ⟨r9, hc8, hf⟩ := bd_some hf
    have hC10 := f11_in_ok l D cy ad ns (uI M t i g) a2 (0 : Int32) (r6 - (1 : Int32)) r9 hc8
    refine x_si (n := 3) (As := [.int a2, .int (0 : Int32), .int (r6 - (1 : Int32))]) (rest := []) hx hb hml hts hown hK hW hA hC10 t_797 t_798 t_14 t_799 rfl (by decide +kernel) rfl rfl ⟨Nat.le_of_ble_eq_true rfl, Nat.le_of_ble_eq_true rfl⟩ hl.1 rfl (lv_room (Nat.le_of_ble_eq_true rfl)) dX11_key_21 ⟨(Nat.le_of_ble_eq_true rfl), (Nat.le_of_ble_eq_true rfl)⟩ (fun H locs hW => ?_)
    refine lv_if_eq (tgt := 36) hx hb dX11_key_24 (by decide) (fun c11 => ?_) (fun c11 => ?_)
    · replace hf := (if_pos c11).symm.trans hf
      refine lv_iconst (v := -1) hx hb dX11_key_36 (by decide) ?_
      exact x_iret hx hb hr hlk hK hW (Option.some.inj hf) rfl dX11_key_37
    · replace hf := (if_neg c11).symm.trans hf
      refine lv_aload_n hx hb dX11_key_27 rfl (lv_at hl 0 rfl) ?_
      refine lv_iload_n hx hb dX11_key_28 rfl (lv_at hl 1 rfl) ?_
      refine lv_iload_n hx hb dX11_key_29 rfl (lv_at hl 2 rfl) ?_
      obtain ⟨r13, hc12, hf⟩ := bd_some hf
      have hC14 := f11_keyAt_ok l D cy ad ns M t i hI g a1 a2 r13 hc12
      refine x_vi (n := 2) (As := [.int a1, .int a2]) (rest := []) hx hb hml hts hown hK hW hA hC14 (hI.2 0 (by decide)) uI_o (hI.1 0 _) rfl rfl t_831 t_833 p_29 t_14 t_834 rfl (by decide +kernel) rfl rfl ⟨Nat.le_of_ble_eq_true rfl, Nat.le_of_ble_eq_true rfl⟩ hl.1 rfl (lv_room (Nat.le_of_ble_eq_true rfl)) dX11_key_30 ⟨(Nat.le_of_ble_eq_true rfl), (Nat.le_of_ble_eq_true rfl)⟩ (fun H locs hW => ?_)
      refine lv_goto (tgt := 37) hx hb dX11_key_33 (by decide) ?_
      exact x_iret hx hb hr hlk hK hW (Option.some.inj hf) rfl dX11_key_37
  · replace hf := (if_pos c4).symm.trans hf
    refine lv_bipush (v := -2) hx hb dX11_key_9 (by decide) ?_
    exact x_iret hx hb hr hlk hK hW (Option.some.inj hf) rfl dX11_key_11
def f11_about (g : Sg) (a1 : Int32) : Option Int32 :=
  (if a1 = 0 then (rd 1805 (g 1) (1393 : Int32) (fun v3 => (some v3))) else (if a1 = 1 then (rd 1805 (g 1) (1394 : Int32) (fun v6 => (some v6))) else (if a1 = 2 then ((f11_units g (a1 - (2 : Int32))).bind (fun r9 => (some r9))) else (if a1 = 3 then ((f11_units g (a1 - (2 : Int32))).bind (fun r13 => (some r13))) else (if a1 = 4 then ((f11_units g (a1 - (2 : Int32))).bind (fun r17 => (some r17))) else (if a1 = 5 then ((f11_length g (0 : Int32)).bind (fun r21 => ((f11_length g (1 : Int32)).bind (fun r24 => ((f11_length g (2 : Int32)).bind (fun r27 => (some ((r21 + r24) + r27)))))))) else (if a1 = 6 then (rd 1805 (g 1) (1395 : Int32) (fun v31 => (some v31))) else (if a1 = 7 then (rd 1805 (g 1) (1396 : Int32) (fun v34 => (some v34))) else (if a1 = 8 then (rd 1805 (g 1) (1397 : Int32) (fun v37 => (some v37))) else (if a1 = 9 then (rd 1805 (g 1) (1398 : Int32) (fun v40 => (some v40))) else (if a1 = 10 then (rd 1805 (g 1) (1399 : Int32) (fun v43 => (some v43))) else (if a1 = 11 then (rd 1805 (g 1) (1400 : Int32) (fun v46 => (some v46))) else (if a1 = 12 then (rd 1805 (g 1) (1401 : Int32) (fun v49 => (some v49))) else (if a1 = 13 then (rd 1805 (g 1) (1402 : Int32) (fun v52 => (some v52))) else (if a1 = 14 then (rd 1805 (g 1) (1403 : Int32) (fun v55 => (some v55))) else (if a1 = 15 then (rd 1805 (g 1) (1404 : Int32) (fun v58 => (some v58))) else (some (-2 : Int32))))))))))))))))))
set_option maxHeartbeats 4000000 in
set_option maxRecDepth 100000 in
theorem f11_about_ok (l : Launch) (D : va_G) (cy : Nat → ClassId) (ad : Nat → Nat → Nat → Nat) (ns : List (Nat × Nat × Nat)) (M : Me) (t i : Nat) (hI : IsModel cy ad ns t i) (g : Sg) (a1 : Int32) (r : Int32)  (hf : f11_about g a1 = some r) : Ci l yX11_about (.code yX11_about cX11_about 2 (some .int) :: tk_tb) { frames := 2, cells := 0, slots := 0, locals := 45 } D cy ad ns [.ref (ad t i 0), .int a1] (uI M t i g) r (uI M t i g) := by
  refine Ci.of (by decide) (Nat.le_of_ble_eq_true rfl) ?_
  intro p e s m below meth c ls hE hW hl
  obtain ⟨hx, hb, hr, hml, hown, hts, hlk, hK⟩ := hE
  have hA : ∀ q : Nat, s.heap.size ≤ q → Aw ad ns s.heap.size q := fun q h => Or.inr h
  have hl : lv_has ls 2 [(0, .ref (ad t i 0)), (1, .int a1)] := hl
  unfold f11_about at hf
  refine lv_iload_n hx hb dX11_about_0 rfl (lv_at hl 1 rfl) ?_
  by_cases c1 : a1 = 0
  · replace hf := (if_pos c1).symm.trans hf
    refine x_tab (v := 0) c1 hx hb dX11_about_1 (by decide) (by decide) rfl (by decide) (tgt := 80) ?_
    refine lv_aload_n hx hb dX11_about_80 rfl (lv_at hl 0 rfl) ?_
    refine x_get hx hb hts hown hK hW (hI.2 0 (by decide)) uI_o (hI.1 0 _) rfl inX11 2 (by decide) t_742 rfl dX11_about_81 ?_
    refine lv_sipush (v := 1393) hx hb dX11_about_84 (by decide) ?_
    obtain ⟨hi2, hf⟩ := rd_some hf
    refine x_iald hx hb hK hW (hI.2 1 (by decide)) uI_o (hI.1 1 _) hi2 dX11_about_87 ?_
    generalize g 1 ((1393 : Int32)).toNatClampNeg = v3 at hf ⊢
    exact x_iret hx hb hr hlk hK hW (Option.some.inj hf) rfl dX11_about_88
  · replace hf := (if_neg c1).symm.trans hf
    by_cases c4 : a1 = 1
    · replace hf := (if_pos c4).symm.trans hf
      refine x_tab (v := 1) c4 hx hb dX11_about_1 (by decide) (by decide) rfl (by decide) (tgt := 89) ?_
      refine lv_aload_n hx hb dX11_about_89 rfl (lv_at hl 0 rfl) ?_
      refine x_get hx hb hts hown hK hW (hI.2 0 (by decide)) uI_o (hI.1 0 _) rfl inX11 2 (by decide) t_742 rfl dX11_about_90 ?_
      refine lv_sipush (v := 1394) hx hb dX11_about_93 (by decide) ?_
      obtain ⟨hi5, hf⟩ := rd_some hf
      refine x_iald hx hb hK hW (hI.2 1 (by decide)) uI_o (hI.1 1 _) hi5 dX11_about_96 ?_
      generalize g 1 ((1394 : Int32)).toNatClampNeg = v6 at hf ⊢
      exact x_iret hx hb hr hlk hK hW (Option.some.inj hf) rfl dX11_about_97
    · replace hf := (if_neg c4).symm.trans hf
      by_cases c7 : a1 = 2
      · replace hf := (if_pos c7).symm.trans hf
        refine x_tab (v := 2) c7 hx hb dX11_about_1 (by decide) (by decide) rfl (by decide) (tgt := 98) ?_
        refine lv_aload_n hx hb dX11_about_98 rfl (lv_at hl 0 rfl) ?_
        refine lv_iload_n hx hb dX11_about_99 rfl (lv_at hl 1 rfl) ?_
        refine lv_iconst (v := 2) hx hb dX11_about_100 (by decide) ?_
        refine lv_isub hx hb dX11_about_101 ?_
        obtain ⟨r9, hc8, hf⟩ := bd_some hf
        have hC10 := f11_units_ok l D cy ad ns M t i hI g (a1 - (2 : Int32)) r9 hc8
        refine x_vi (n := 1) (As := [.int (a1 - (2 : Int32))]) (rest := []) hx hb hml hts hown hK hW hA hC10 (hI.2 0 (by decide)) uI_o (hI.1 0 _) rfl rfl t_871 t_873 p_38 t_14 t_874 rfl (by decide +kernel) rfl rfl ⟨Nat.le_of_ble_eq_true rfl, Nat.le_of_ble_eq_true rfl⟩ hl.1 rfl (lv_room (Nat.le_of_ble_eq_true rfl)) dX11_about_102 ⟨(Nat.le_of_ble_eq_true rfl), (Nat.le_of_ble_eq_true rfl)⟩ (fun H locs hW => ?_)
        exact x_iret hx hb hr hlk hK hW (Option.some.inj hf) rfl dX11_about_105
      · replace hf := (if_neg c7).symm.trans hf
        by_cases c11 : a1 = 3
        · replace hf := (if_pos c11).symm.trans hf
          refine x_tab (v := 3) c11 hx hb dX11_about_1 (by decide) (by decide) rfl (by decide) (tgt := 98) ?_
          refine lv_aload_n hx hb dX11_about_98 rfl (lv_at hl 0 rfl) ?_
          refine lv_iload_n hx hb dX11_about_99 rfl (lv_at hl 1 rfl) ?_
          refine lv_iconst (v := 2) hx hb dX11_about_100 (by decide) ?_
          refine lv_isub hx hb dX11_about_101 ?_
          obtain ⟨r13, hc12, hf⟩ := bd_some hf
          have hC14 := f11_units_ok l D cy ad ns M t i hI g (a1 - (2 : Int32)) r13 hc12
          refine x_vi (n := 1) (As := [.int (a1 - (2 : Int32))]) (rest := []) hx hb hml hts hown hK hW hA hC14 (hI.2 0 (by decide)) uI_o (hI.1 0 _) rfl rfl t_871 t_873 p_38 t_14 t_874 rfl (by decide +kernel) rfl rfl ⟨Nat.le_of_ble_eq_true rfl, Nat.le_of_ble_eq_true rfl⟩ hl.1 rfl (lv_room (Nat.le_of_ble_eq_true rfl)) dX11_about_102 ⟨(Nat.le_of_ble_eq_true rfl), (Nat.le_of_ble_eq_true rfl)⟩ (fun H locs hW => ?_)
          exact x_iret hx hb hr hlk hK hW (Option.some.inj hf) rfl dX11_about_105
        · replace hf := (if_neg c11).symm.trans hf
          by_cases c15 : a1 = 4
          · replace hf := (if_pos c15).symm.trans hf
            refine x_tab (v := 4) c15 hx hb dX11_about_1 (by decide) (by decide) rfl (by decide) (tgt := 98) ?_
            refine lv_aload_n hx hb dX11_about_98 rfl (lv_at hl 0 rfl) ?_
            refine lv_iload_n hx hb dX11_about_99 rfl (lv_at hl 1 rfl) ?_
            refine lv_iconst (v := 2) hx hb dX11_about_100 (by decide) ?_
            refine lv_isub hx hb dX11_about_101 ?_
            obtain ⟨r17, hc16, hf⟩ := bd_some hf
            have hC18 := f11_units_ok l D cy ad ns M t i hI g (a1 - (2 : Int32)) r17 hc16
            refine x_vi (n := 1) (As := [.int (a1 - (2 : Int32))]) (rest := []) hx hb hml hts hown hK hW hA hC18 (hI.2 0 (by decide)) uI_o (hI.1 0 _) rfl rfl t_871 t_873 p_38 t_14 t_874 rfl (by decide +kernel) rfl rfl ⟨Nat.le_of_ble_eq_true rfl, Nat.le_of_ble_eq_true rfl⟩ hl.1 rfl (lv_room (Nat.le_of_ble_eq_true rfl)) dX11_about_102 ⟨(Nat.le_of_ble_eq_true rfl), (Nat.le_of_ble_eq_true rfl)⟩ (fun H locs hW => ?_)
            exact x_iret hx hb hr hlk hK hW (Option.some.inj hf) rfl dX11_about_105
          · replace hf := (if_neg c15).symm.trans hf
            by_cases c19 : a1 = 5
            · replace hf := (if_pos c19).symm.trans hf
              refine x_tab (v := 5) c19 hx hb dX11_about_1 (by decide) (by decide) rfl (by decide) (tgt := 106) ?_
              refine lv_aload_n hx hb dX11_about_106 rfl (lv_at hl 0 rfl) ?_
              refine lv_iconst (v := 0) hx hb dX11_about_107 (by decide) ?_
              obtain ⟨r21, hc20, hf⟩ := bd_some hf
              have hC22 := f11_length_ok l D cy ad ns M t i hI g (0 : Int32) r21 hc20
              refine x_vi (n := 1) (As := [.int (0 : Int32)]) (rest := []) hx hb hml hts hown hK hW hA hC22 (hI.2 0 (by decide)) uI_o (hI.1 0 _) rfl rfl t_827 t_829 p_28 t_14 t_830 rfl (by decide +kernel) rfl rfl ⟨Nat.le_of_ble_eq_true rfl, Nat.le_of_ble_eq_true rfl⟩ hl.1 rfl (lv_room (Nat.le_of_ble_eq_true rfl)) dX11_about_108 ⟨(Nat.le_of_ble_eq_true rfl), (Nat.le_of_ble_eq_true rfl)⟩ (fun H locs hW => ?_)
              refine lv_aload_n hx hb dX11_about_111 rfl (lv_at hl 0 rfl) ?_
              refine lv_iconst (v := 1) hx hb dX11_about_112 (by decide) ?_
              obtain ⟨r24, hc23, hf⟩ := bd_some hf
              have hC25 := f11_length_ok l D cy ad ns M t i hI g (1 : Int32) r24 hc23
              refine x_vi (n := 1) (As := [.int (1 : Int32)]) (rest := [.int r21]) hx hb hml hts hown hK hW hA hC25 (hI.2 0 (by decide)) uI_o (hI.1 0 _) rfl rfl t_827 t_829 p_28 t_14 t_830 rfl (by decide +kernel) rfl rfl ⟨Nat.le_of_ble_eq_true rfl, Nat.le_of_ble_eq_true rfl⟩ hl.1 rfl (lv_room (Nat.le_of_ble_eq_true rfl)) dX11_about_113 ⟨(Nat.le_of_ble_eq_true rfl), (Nat.le_of_ble_eq_true rfl)⟩ (fun H locs hW => ?_)
              refine lv_iadd hx hb dX11_about_116 ?_
              refine lv_aload_n hx hb dX11_about_117 rfl (lv_at hl 0 rfl) ?_
              refine lv_iconst (v := 2) hx hb dX11_about_118 (by decide) ?_
              obtain ⟨r27, hc26, hf⟩ := bd_some hf
              have hC28 := f11_length_ok l D cy ad ns M t i hI g (2 : Int32) r27 hc26
              refine x_vi (n := 1) (As := [.int (2 : Int32)]) (rest := [.int (r21 + r24)]) hx hb hml hts hown hK hW hA hC28 (hI.2 0 (by decide)) uI_o (hI.1 0 _) rfl rfl t_827 t_829 p_28 t_14 t_830 rfl (by decide +kernel) rfl rfl ⟨Nat.le_of_ble_eq_true rfl, Nat.le_of_ble_eq_true rfl⟩ hl.1 rfl (lv_room (Nat.le_of_ble_eq_true rfl)) dX11_about_119 ⟨(Nat.le_of_ble_eq_true rfl), (Nat.le_of_ble_eq_true rfl)⟩ (fun H locs hW => ?_)
              refine lv_iadd hx hb dX11_about_122 ?_
              exact x_iret hx hb hr hlk hK hW (Option.some.inj hf) rfl dX11_about_123
            · replace hf := (if_neg c19).symm.trans hf
              by_cases c29 : a1 = 6
              · replace hf := (if_pos c29).symm.trans hf
                refine x_tab (v := 6) c29 hx hb dX11_about_1 (by decide) (by decide) rfl (by decide) (tgt := 124) ?_
                refine lv_aload_n hx hb dX11_about_124 rfl (lv_at hl 0 rfl) ?_
                refine x_get hx hb hts hown hK hW (hI.2 0 (by decide)) uI_o (hI.1 0 _) rfl inX11 2 (by decide) t_742 rfl dX11_about_125 ?_
                refine lv_sipush (v := 1395) hx hb dX11_about_128 (by decide) ?_
                obtain ⟨hi30, hf⟩ := rd_some hf
                refine x_iald hx hb hK hW (hI.2 1 (by decide)) uI_o (hI.1 1 _) hi30 dX11_about_131 ?_
                generalize g 1 ((1395 : Int32)).toNatClampNeg = v31 at hf ⊢
                exact x_iret hx hb hr hlk hK hW (Option.some.inj hf) rfl dX11_about_132
              · replace hf := (if_neg c29).symm.trans hf
                by_cases c32 : a1 = 7
                · replace hf := (if_pos c32).symm.trans hf
                  refine x_tab (v := 7) c32 hx hb dX11_about_1 (by decide) (by decide) rfl (by decide) (tgt := 133) ?_
                  refine lv_aload_n hx hb dX11_about_133 rfl (lv_at hl 0 rfl) ?_
                  refine x_get hx hb hts hown hK hW (hI.2 0 (by decide)) uI_o (hI.1 0 _) rfl inX11 2 (by decide) t_742 rfl dX11_about_134 ?_
                  refine lv_sipush (v := 1396) hx hb dX11_about_137 (by decide) ?_
                  obtain ⟨hi33, hf⟩ := rd_some hf
                  refine x_iald hx hb hK hW (hI.2 1 (by decide)) uI_o (hI.1 1 _) hi33 dX11_about_140 ?_
                  generalize g 1 ((1396 : Int32)).toNatClampNeg = v34 at hf ⊢
                  exact x_iret hx hb hr hlk hK hW (Option.some.inj hf) rfl dX11_about_141
                · replace hf := (if_neg c32).symm.trans hf
                  by_cases c35 : a1 = 8
                  · replace hf := (if_pos c35).symm.trans hf
                    refine x_tab (v := 8) c35 hx hb dX11_about_1 (by decide) (by decide) rfl (by decide) (tgt := 142) ?_
                    refine lv_aload_n hx hb dX11_about_142 rfl (lv_at hl 0 rfl) ?_
                    refine x_get hx hb hts hown hK hW (hI.2 0 (by decide)) uI_o (hI.1 0 _) rfl inX11 2 (by decide) t_742 rfl dX11_about_143 ?_
                    refine lv_sipush (v := 1397) hx hb dX11_about_146 (by decide) ?_
                    obtain ⟨hi36, hf⟩ := rd_some hf
                    refine x_iald hx hb hK hW (hI.2 1 (by decide)) uI_o (hI.1 1 _) hi36 dX11_about_149 ?_
                    generalize g 1 ((1397 : Int32)).toNatClampNeg = v37 at hf ⊢
                    exact x_iret hx hb hr hlk hK hW (Option.some.inj hf) rfl dX11_about_150
                  · replace hf := (if_neg c35).symm.trans hf
                    by_cases c38 : a1 = 9
                    · replace hf := (if_pos c38).symm.trans hf
                      refine x_tab (v := 9) c38 hx hb dX11_about_1 (by decide) (by decide) rfl (by decide) (tgt := 151) ?_
                      refine lv_aload_n hx hb dX11_about_151 rfl (lv_at hl 0 rfl) ?_
                      refine x_get hx hb hts hown hK hW (hI.2 0 (by decide)) uI_o (hI.1 0 _) rfl inX11 2 (by decide) t_742 rfl dX11_about_152 ?_
                      refine lv_sipush (v := 1398) hx hb dX11_about_155 (by decide) ?_
                      obtain ⟨hi39, hf⟩ := rd_some hf
                      refine x_iald hx hb hK hW (hI.2 1 (by decide)) uI_o (hI.1 1 _) hi39 dX11_about_158 ?_
                      generalize g 1 ((1398 : Int32)).toNatClampNeg = v40 at hf ⊢
                      exact x_iret hx hb hr hlk hK hW (Option.some.inj hf) rfl dX11_about_159
                    · replace hf := (if_neg c38).symm.trans hf
                      by_cases c41 : a1 = 10
                      · replace hf := (if_pos c41).symm.trans hf
                        refine x_tab (v := 10) c41 hx hb dX11_about_1 (by decide) (by decide) rfl (by decide) (tgt := 160) ?_
                        refine lv_aload_n hx hb dX11_about_160 rfl (lv_at hl 0 rfl) ?_
                        refine x_get hx hb hts hown hK hW (hI.2 0 (by decide)) uI_o (hI.1 0 _) rfl inX11 2 (by decide) t_742 rfl dX11_about_161 ?_
                        refine lv_sipush (v := 1399) hx hb dX11_about_164 (by decide) ?_
                        obtain ⟨hi42, hf⟩ := rd_some hf
                        refine x_iald hx hb hK hW (hI.2 1 (by decide)) uI_o (hI.1 1 _) hi42 dX11_about_167 ?_
                        generalize g 1 ((1399 : Int32)).toNatClampNeg = v43 at hf ⊢
                        exact x_iret hx hb hr hlk hK hW (Option.some.inj hf) rfl dX11_about_168
                      · replace hf := (if_neg c41).symm.trans hf
                        by_cases c44 : a1 = 11
                        · replace hf := (if_pos c44).symm.trans hf
                          refine x_tab (v := 11) c44 hx hb dX11_about_1 (by decide) (by decide) rfl (by decide) (tgt := 169) ?_
                          refine lv_aload_n hx hb dX11_about_169 rfl (lv_at hl 0 rfl) ?_
                          refine x_get hx hb hts hown hK hW (hI.2 0 (by decide)) uI_o (hI.1 0 _) rfl inX11 2 (by decide) t_742 rfl dX11_about_170 ?_
                          refine lv_sipush (v := 1400) hx hb dX11_about_173 (by decide) ?_
                          obtain ⟨hi45, hf⟩ := rd_some hf
                          refine x_iald hx hb hK hW (hI.2 1 (by decide)) uI_o (hI.1 1 _) hi45 dX11_about_176 ?_
                          generalize g 1 ((1400 : Int32)).toNatClampNeg = v46 at hf ⊢
                          exact x_iret hx hb hr hlk hK hW (Option.some.inj hf) rfl dX11_about_177
                        · replace hf := (if_neg c44).symm.trans hf
                          by_cases c47 : a1 = 12
                          · replace hf := (if_pos c47).symm.trans hf
                            refine x_tab (v := 12) c47 hx hb dX11_about_1 (by decide) (by decide) rfl (by decide) (tgt := 178) ?_
                            refine lv_aload_n hx hb dX11_about_178 rfl (lv_at hl 0 rfl) ?_
                            refine x_get hx hb hts hown hK hW (hI.2 0 (by decide)) uI_o (hI.1 0 _) rfl inX11 2 (by decide) t_742 rfl dX11_about_179 ?_
                            refine lv_sipush (v := 1401) hx hb dX11_about_182 (by decide) ?_
                            obtain ⟨hi48, hf⟩ := rd_some hf
                            refine x_iald hx hb hK hW (hI.2 1 (by decide)) uI_o (hI.1 1 _) hi48 dX11_about_185 ?_
                            generalize g 1 ((1401 : Int32)).toNatClampNeg = v49 at hf ⊢
                            exact x_iret hx hb hr hlk hK hW (Option.some.inj hf) rfl dX11_about_186
                          · replace hf := (if_neg c47).symm.trans hf
                            by_cases c50 : a1 = 13
                            · replace hf := (if_pos c50).symm.trans hf
                              refine x_tab (v := 13) c50 hx hb dX11_about_1 (by decide) (by decide) rfl (by decide) (tgt := 187) ?_
                              refine lv_aload_n hx hb dX11_about_187 rfl (lv_at hl 0 rfl) ?_
                              refine x_get hx hb hts hown hK hW (hI.2 0 (by decide)) uI_o (hI.1 0 _) rfl inX11 2 (by decide) t_742 rfl dX11_about_188 ?_
                              refine lv_sipush (v := 1402) hx hb dX11_about_191 (by decide) ?_
                              obtain ⟨hi51, hf⟩ := rd_some hf
                              refine x_iald hx hb hK hW (hI.2 1 (by decide)) uI_o (hI.1 1 _) hi51 dX11_about_194 ?_
                              generalize g 1 ((1402 : Int32)).toNatClampNeg = v52 at hf ⊢
                              exact x_iret hx hb hr hlk hK hW (Option.some.inj hf) rfl dX11_about_195
                            · replace hf := (if_neg c50).symm.trans hf
                              by_cases c53 : a1 = 14
                              · replace hf := (if_pos c53).symm.trans hf
                                refine x_tab (v := 14) c53 hx hb dX11_about_1 (by decide) (by decide) rfl (by decide) (tgt := 196) ?_
                                refine lv_aload_n hx hb dX11_about_196 rfl (lv_at hl 0 rfl) ?_
                                refine x_get hx hb hts hown hK hW (hI.2 0 (by decide)) uI_o (hI.1 0 _) rfl inX11 2 (by decide) t_742 rfl dX11_about_197 ?_
                                refine lv_sipush (v := 1403) hx hb dX11_about_200 (by decide) ?_
                                obtain ⟨hi54, hf⟩ := rd_some hf
                                refine x_iald hx hb hK hW (hI.2 1 (by decide)) uI_o (hI.1 1 _) hi54 dX11_about_203 ?_
                                generalize g 1 ((1403 : Int32)).toNatClampNeg = v55 at hf ⊢
                                exact x_iret hx hb hr hlk hK hW (Option.some.inj hf) rfl dX11_about_204
                              · replace hf := (if_neg c53).symm.trans hf
                                by_cases c56 : a1 = 15
                                · replace hf := (if_pos c56).symm.trans hf
                                  refine x_tab (v := 15) c56 hx hb dX11_about_1 (by decide) (by decide) rfl (by decide) (tgt := 205) ?_
                                  refine lv_aload_n hx hb dX11_about_205 rfl (lv_at hl 0 rfl) ?_
                                  refine x_get hx hb hts hown hK hW (hI.2 0 (by decide)) uI_o (hI.1 0 _) rfl inX11 2 (by decide) t_742 rfl dX11_about_206 ?_
                                  refine lv_sipush (v := 1404) hx hb dX11_about_209 (by decide) ?_
                                  obtain ⟨hi57, hf⟩ := rd_some hf
                                  refine x_iald hx hb hK hW (hI.2 1 (by decide)) uI_o (hI.1 1 _) hi57 dX11_about_212 ?_
                                  generalize g 1 ((1404 : Int32)).toNatClampNeg = v58 at hf ⊢
                                  exact x_iret hx hb hr hlk hK hW (Option.some.inj hf) rfl dX11_about_213
                                · replace hf := (if_neg c56).symm.trans hf
                                  refine lv_tableOut (tgt := 214) hx hb dX11_about_1 (by have := ne_toInt (z := 0) (by decide) c1; have := ne_toInt (z := 1) (by decide) c4; have := ne_toInt (z := 2) (by decide) c7; have := ne_toInt (z := 3) (by decide) c11; have := ne_toInt (z := 4) (by decide) c15; have := ne_toInt (z := 5) (by decide) c19; have := ne_toInt (z := 6) (by decide) c29; have := ne_toInt (z := 7) (by decide) c32; have := ne_toInt (z := 8) (by decide) c35; have := ne_toInt (z := 9) (by decide) c38; have := ne_toInt (z := 10) (by decide) c41; have := ne_toInt (z := 11) (by decide) c44; have := ne_toInt (z := 12) (by decide) c47; have := ne_toInt (z := 13) (by decide) c50; have := ne_toInt (z := 14) (by decide) c53; have := ne_toInt (z := 15) (by decide) c56; omega) (by decide) ?_
                                  refine lv_bipush (v := -2) hx hb dX11_about_214 (by decide) ?_
                                  exact x_iret hx hb hr hlk hK hW (Option.some.inj hf) rfl dX11_about_216
def f11_trace (g : Sg) (a1 : Int32) : Option Int32 :=
  (rd 1805 (g 1) (1404 : Int32) (fun v2 => ((f11_in a1 (0 : Int32) (v2 - (1 : Int32))).bind (fun r4 => (if r4 = 0 then (some (-1 : Int32)) else (rd 1805 (g 1) ((1405 : Int32) + a1) (fun v8 => (some v8))))))))
set_option maxHeartbeats 4000000 in
set_option maxRecDepth 100000 in
theorem f11_trace_ok (l : Launch) (D : va_G) (cy : Nat → ClassId) (ad : Nat → Nat → Nat → Nat) (ns : List (Nat × Nat × Nat)) (M : Me) (t i : Nat) (hI : IsModel cy ad ns t i) (g : Sg) (a1 : Int32) (r : Int32)  (hf : f11_trace g a1 = some r) : Ci l yX11_trace (.code yX11_trace cX11_trace 2 (some .int) :: tk_tb) { frames := 1, cells := 0, slots := 0, locals := 22 } D cy ad ns [.ref (ad t i 0), .int a1] (uI M t i g) r (uI M t i g) := by
  refine Ci.of (by decide) (Nat.le_of_ble_eq_true rfl) ?_
  intro p e s m below meth c ls hE hW hl
  obtain ⟨hx, hb, hr, hml, hown, hts, hlk, hK⟩ := hE
  have hA : ∀ q : Nat, s.heap.size ≤ q → Aw ad ns s.heap.size q := fun q h => Or.inr h
  have hl : lv_has ls 2 [(0, .ref (ad t i 0)), (1, .int a1)] := hl
  unfold f11_trace at hf
  refine lv_iload_n hx hb dX11_trace_0 rfl (lv_at hl 1 rfl) ?_
  refine lv_iconst (v := 0) hx hb dX11_trace_1 (by decide) ?_
  refine lv_aload_n hx hb dX11_trace_2 rfl (lv_at hl 0 rfl) ?_
  refine x_get hx hb hts hown hK hW (hI.2 0 (by decide)) uI_o (hI.1 0 _) rfl inX11 2 (by decide) t_742 rfl dX11_trace_3 ?_
  refine lv_sipush (v := 1404) hx hb dX11_trace_6 (by decide) ?_
  obtain ⟨hi1, hf⟩ := rd_some hf
  refine x_iald hx hb hK hW (hI.2 1 (by decide)) uI_o (hI.1 1 _) hi1 dX11_trace_9 ?_
  generalize g 1 ((1404 : Int32)).toNatClampNeg = v2 at hf ⊢
  refine lv_iconst (v := 1) hx hb dX11_trace_10 (by decide) ?_
  refine lv_isub hx hb dX11_trace_11 ?_
  obtain ⟨r4, hc3, hf⟩ := bd_some hf
  have hC5 := f11_in_ok l D cy ad ns (uI M t i g) a1 (0 : Int32) (v2 - (1 : Int32)) r4 hc3
  refine x_si (n := 3) (As := [.int a1, .int (0 : Int32), .int (v2 - (1 : Int32))]) (rest := []) hx hb hml hts hown hK hW hA hC5 t_797 t_798 t_14 t_799 rfl (by decide +kernel) rfl rfl ⟨Nat.le_of_ble_eq_true rfl, Nat.le_of_ble_eq_true rfl⟩ hl.1 rfl (lv_room (Nat.le_of_ble_eq_true rfl)) dX11_trace_12 ⟨(Nat.le_of_ble_eq_true rfl), (Nat.le_of_ble_eq_true rfl)⟩ (fun H locs hW => ?_)
  refine lv_if_eq (tgt := 31) hx hb dX11_trace_15 (by decide) (fun c6 => ?_) (fun c6 => ?_)
  · replace hf := (if_pos c6).symm.trans hf
    refine lv_iconst (v := -1) hx hb dX11_trace_31 (by decide) ?_
    exact x_iret hx hb hr hlk hK hW (Option.some.inj hf) rfl dX11_trace_32
  · replace hf := (if_neg c6).symm.trans hf
    refine lv_aload_n hx hb dX11_trace_18 rfl (lv_at hl 0 rfl) ?_
    refine x_get hx hb hts hown hK hW (hI.2 0 (by decide)) uI_o (hI.1 0 _) rfl inX11 2 (by decide) t_742 rfl dX11_trace_19 ?_
    refine lv_sipush (v := 1405) hx hb dX11_trace_22 (by decide) ?_
    refine lv_iload_n hx hb dX11_trace_25 rfl (lv_at hl 1 rfl) ?_
    refine lv_iadd hx hb dX11_trace_26 ?_
    obtain ⟨hi7, hf⟩ := rd_some hf
    refine x_iald hx hb hK hW (hI.2 1 (by decide)) uI_o (hI.1 1 _) hi7 dX11_trace_27 ?_
    generalize g 1 (((1405 : Int32) + a1)).toNatClampNeg = v8 at hf ⊢
    refine lv_goto (tgt := 32) hx hb dX11_trace_28 (by decide) ?_
    exact x_iret hx hb hr hlk hK hW (Option.some.inj hf) rfl dX11_trace_32
