def f11_within (a0 : Int32) (a1 : Int32) (a2 : Int32) : Option Int32 :=
  (if a1 ≤ a0 then (if a0 ≤ a2 then (some a0) else (some a2)) else (some a1))
set_option maxHeartbeats 4000000 in
set_option maxRecDepth 100000 in
theorem f11_within_ok (l : Launch) (D : va_G) (cy : Nat → ClassId) (ad : Nat → Nat → Nat → Nat) (ns : List (Nat × Nat × Nat)) (M : Me) (a0 : Int32) (a1 : Int32) (a2 : Int32) (r : Int32)  (hf : f11_within a0 a1 a2 = some r) : Ci l yX11_within (.code yX11_within cX11_within 3 (some .int) :: tk_tb) { frames := 0, cells := 0, slots := 0, locals := 0 } D cy ad ns [.int a0, .int a1, .int a2] M r M := by
  refine Ci.of (by decide) (Nat.le_of_ble_eq_true rfl) ?_
  intro p e s m below meth c ls hE hW hl
  obtain ⟨hx, hb, hr, hml, hown, hts, hlk, hK⟩ := hE
  have hA : ∀ q : Nat, s.heap.size ≤ q → Aw ad ns s.heap.size q := fun q h => Or.inr h
  have hl : lv_has ls 3 [(0, .int a0), (1, .int a1), (2, .int a2)] := hl
  unfold f11_within at hf
  refine lv_iload_n hx hb dX11_within_0 rfl (lv_at hl 0 rfl) ?_
  refine lv_iload_n hx hb dX11_within_1 rfl (lv_at hl 1 rfl) ?_
  refine lv_icmp_ge (tgt := 9) hx hb dX11_within_2 (by decide) (fun c1 => ?_) (fun c1 => ?_)
  · replace hf := (if_pos c1).symm.trans hf
    refine lv_iload_n hx hb dX11_within_9 rfl (lv_at hl 0 rfl) ?_
    refine lv_iload_n hx hb dX11_within_10 rfl (lv_at hl 2 rfl) ?_
    refine lv_icmp_le (tgt := 18) hx hb dX11_within_11 (by decide) (fun c2 => ?_) (fun c2 => ?_)
    · replace hf := (if_pos c2).symm.trans hf
      refine lv_iload_n hx hb dX11_within_18 rfl (lv_at hl 0 rfl) ?_
      exact x_iret hx hb hr hlk hK hW (Option.some.inj hf) rfl dX11_within_19
    · replace hf := (if_neg c2).symm.trans hf
      refine lv_iload_n hx hb dX11_within_14 rfl (lv_at hl 2 rfl) ?_
      refine lv_goto (tgt := 19) hx hb dX11_within_15 (by decide) ?_
      exact x_iret hx hb hr hlk hK hW (Option.some.inj hf) rfl dX11_within_19
  · replace hf := (if_neg c1).symm.trans hf
    refine lv_iload_n hx hb dX11_within_5 rfl (lv_at hl 1 rfl) ?_
    refine lv_goto (tgt := 19) hx hb dX11_within_6 (by decide) ?_
    exact x_iret hx hb hr hlk hK hW (Option.some.inj hf) rfl dX11_within_19
def f11_in (a0 : Int32) (a1 : Int32) (a2 : Int32) : Option Int32 :=
  (if a0 < a1 then (some (0 : Int32)) else (if a2 < a0 then (some (0 : Int32)) else (some (1 : Int32))))
set_option maxHeartbeats 4000000 in
set_option maxRecDepth 100000 in
theorem f11_in_ok (l : Launch) (D : va_G) (cy : Nat → ClassId) (ad : Nat → Nat → Nat → Nat) (ns : List (Nat × Nat × Nat)) (M : Me) (a0 : Int32) (a1 : Int32) (a2 : Int32) (r : Int32)  (hf : f11_in a0 a1 a2 = some r) : Ci l yX11_in (.code yX11_in cX11_in 3 (some .boolean) :: tk_tb) { frames := 0, cells := 0, slots := 0, locals := 0 } D cy ad ns [.int a0, .int a1, .int a2] M r M := by
  refine Ci.of (by decide) (Nat.le_of_ble_eq_true rfl) ?_
  intro p e s m below meth c ls hE hW hl
  obtain ⟨hx, hb, hr, hml, hown, hts, hlk, hK⟩ := hE
  have hA : ∀ q : Nat, s.heap.size ≤ q → Aw ad ns s.heap.size q := fun q h => Or.inr h
  have hl : lv_has ls 3 [(0, .int a0), (1, .int a1), (2, .int a2)] := hl
  unfold f11_in at hf
  refine lv_iload_n hx hb dX11_in_0 rfl (lv_at hl 0 rfl) ?_
  refine lv_iload_n hx hb dX11_in_1 rfl (lv_at hl 1 rfl) ?_
  refine lv_icmp_lt (tgt := 14) hx hb dX11_in_2 (by decide) (fun c1 => ?_) (fun c1 => ?_)
  · replace hf := (if_pos c1).symm.trans hf
    refine lv_iconst (v := 0) hx hb dX11_in_14 (by decide) ?_
    exact x_zret hx hb hr hlk (by first | decide | rfl) hK hW (Option.some.inj hf) rfl dX11_in_15
  · replace hf := (if_neg c1).symm.trans hf
    refine lv_iload_n hx hb dX11_in_5 rfl (lv_at hl 0 rfl) ?_
    refine lv_iload_n hx hb dX11_in_6 rfl (lv_at hl 2 rfl) ?_
    refine lv_icmp_gt (tgt := 14) hx hb dX11_in_7 (by decide) (fun c2 => ?_) (fun c2 => ?_)
    · replace hf := (if_pos c2).symm.trans hf
      refine lv_iconst (v := 0) hx hb dX11_in_14 (by decide) ?_
      exact x_zret hx hb hr hlk (by first | decide | rfl) hK hW (Option.some.inj hf) rfl dX11_in_15
    · replace hf := (if_neg c2).symm.trans hf
      refine lv_iconst (v := 1) hx hb dX11_in_10 (by decide) ?_
      refine lv_goto (tgt := 15) hx hb dX11_in_11 (by decide) ?_
      exact x_zret hx hb hr hlk (by first | decide | rfl) hK hW (Option.some.inj hf) rfl dX11_in_15
def f11_isKey (a0 : Int32) : Option Int32 :=
  ((f11_in a0 (0 : Int32) (99 : Int32)).bind (fun r2 => (bz r2 (some r2))))
set_option maxHeartbeats 4000000 in
set_option maxRecDepth 100000 in
theorem f11_isKey_ok (l : Launch) (D : va_G) (cy : Nat → ClassId) (ad : Nat → Nat → Nat → Nat) (ns : List (Nat × Nat × Nat)) (M : Me) (a0 : Int32) (r : Int32)  (hf : f11_isKey a0 = some r) : Ci l yX11_isKey (.code yX11_isKey cX11_isKey 1 (some .boolean) :: tk_tb) { frames := 1, cells := 0, slots := 0, locals := 22 } D cy ad ns [.int a0] M r M := by
  refine Ci.of (by decide) (Nat.le_of_ble_eq_true rfl) ?_
  intro p e s m below meth c ls hE hW hl
  obtain ⟨hx, hb, hr, hml, hown, hts, hlk, hK⟩ := hE
  have hA : ∀ q : Nat, s.heap.size ≤ q → Aw ad ns s.heap.size q := fun q h => Or.inr h
  have hl : lv_has ls 1 [(0, .int a0)] := hl
  unfold f11_isKey at hf
  refine lv_iload_n hx hb dX11_isKey_0 rfl (lv_at hl 0 rfl) ?_
  refine lv_iconst (v := 0) hx hb dX11_isKey_1 (by decide) ?_
  refine lv_bipush (v := 99) hx hb dX11_isKey_2 (by decide) ?_
  obtain ⟨r2, hc1, hf⟩ := bd_some hf
  have hC3 := f11_in_ok l D cy ad ns M a0 (0 : Int32) (99 : Int32) r2 hc1
  refine x_si (n := 3) (As := [.int a0, .int (0 : Int32), .int (99 : Int32)]) (rest := []) hx hb hml hts hown hK hW hA hC3 t_797 t_798 t_14 t_799 rfl (by decide +kernel) rfl rfl ⟨Nat.le_of_ble_eq_true rfl, Nat.le_of_ble_eq_true rfl⟩ hl.1 rfl (lv_room (Nat.le_of_ble_eq_true rfl)) dX11_isKey_4 ⟨(Nat.le_of_ble_eq_true rfl), (Nat.le_of_ble_eq_true rfl)⟩ (fun H locs hW => ?_)
  obtain ⟨hz4, hf⟩ := bz_some hf
  exact x_zret hx hb hr hlk hz4 hK hW (Option.some.inj hf) rfl dX11_isKey_7
def f11_setWindow (a1 : Int32) (g : Sg) : Option Sg :=
  ((f11_within a1 (1 : Int32) ((g 0 1) - (1 : Int32))).bind (fun r2 => (wr 1805 (1393 : Int32) (va_up g 1 (upd (g 1) ((1393 : Int32)).toNatClampNeg r2)) (fun g5 => (rd 1805 (g5 1) (1393 : Int32) (fun v7 => (wr 1805 (1394 : Int32) (va_up g5 1 (upd (g5 1) ((1394 : Int32)).toNatClampNeg ((((g5 0 1) - v7) * (4 : Int32)) / (5 : Int32)))) (fun g9 => (some g9)))))))))
set_option maxHeartbeats 4000000 in
set_option maxRecDepth 100000 in
theorem f11_setWindow_ok (l : Launch) (D : va_G) (cy : Nat → ClassId) (ad : Nat → Nat → Nat → Nat) (ns : List (Nat × Nat × Nat)) (M : Me) (t i : Nat) (hI : IsModel cy ad ns t i) (g : Sg) (a1 : Int32) (m2 : Sg)  (hf : f11_setWindow a1 g = some m2) : Cv l yX11_setWindow (.code yX11_setWindow cX11_setWindow 2 none :: tk_tb) { frames := 1, cells := 0, slots := 0, locals := 22 } D cy ad ns [.ref (ad t i 0), .int a1] (uI M t i g) (uI M t i m2) := by
  refine Cv.of (by decide) (Nat.le_of_ble_eq_true rfl) ?_
  intro p e s m below meth c ls hE hW hl
  obtain ⟨hx, hb, hr, hml, hown, hts, hlk, hK⟩ := hE
  have hA : ∀ q : Nat, s.heap.size ≤ q → Aw ad ns s.heap.size q := fun q h => Or.inr h
  have hl : lv_has ls 2 [(0, .ref (ad t i 0)), (1, .int a1)] := hl
  unfold f11_setWindow at hf
  refine lv_aload_n hx hb dX11_setWindow_0 rfl (lv_at hl 0 rfl) ?_
  refine x_get hx hb hts hown hK hW (hI.2 0 (by decide)) uI_o (hI.1 0 _) rfl inX11 2 (by decide) t_742 rfl dX11_setWindow_1 ?_
  refine lv_sipush (v := 1393) hx hb dX11_setWindow_4 (by decide) ?_
  refine lv_iload_n hx hb dX11_setWindow_7 rfl (lv_at hl 1 rfl) ?_
  refine lv_iconst (v := 1) hx hb dX11_setWindow_8 (by decide) ?_
  refine lv_aload_n hx hb dX11_setWindow_9 rfl (lv_at hl 0 rfl) ?_
  refine x_get hx hb hts hown hK hW (hI.2 0 (by decide)) uI_o (hI.1 0 _) rfl inX11 1 (by decide) t_741 rfl dX11_setWindow_10 ?_
  refine lv_iconst (v := 1) hx hb dX11_setWindow_13 (by decide) ?_
  refine lv_isub hx hb dX11_setWindow_14 ?_
  obtain ⟨r2, hc1, hf⟩ := bd_some hf
  have hC3 := f11_within_ok l D cy ad ns (uI M t i g) a1 (1 : Int32) ((g 0 1) - (1 : Int32)) r2 hc1
  refine x_si (n := 3) (As := [.int a1, .int (1 : Int32), .int ((g 0 1) - (1 : Int32))]) (rest := [.int (1393 : Int32), .ref (ad t i 1)]) hx hb hml hts hown hK hW hA hC3 t_733 t_734 t_14 t_735 rfl (by decide +kernel) rfl rfl ⟨Nat.le_of_ble_eq_true rfl, Nat.le_of_ble_eq_true rfl⟩ hl.1 rfl (lv_room (Nat.le_of_ble_eq_true rfl)) dX11_setWindow_15 ⟨(Nat.le_of_ble_eq_true rfl), (Nat.le_of_ble_eq_true rfl)⟩ (fun H locs hW => ?_)
  obtain ⟨hi4, hf⟩ := wr_some hf
  refine x_iast hx hb hK hW (hI.2 1 (by decide)) uI_o (fun _ => (hI.1 1 _)) hi4 uC_leaf dX11_setWindow_18 (fun H locs hW => ?_)
  generalize (va_up g 1 (upd (g 1) ((1393 : Int32)).toNatClampNeg r2)) = g5 at hf hW
  refine lv_aload_n hx hb dX11_setWindow_19 rfl (lv_at hl 0 rfl) ?_
  refine x_get hx hb hts hown hK hW (hI.2 0 (by decide)) uI_o (hI.1 0 _) rfl inX11 2 (by decide) t_742 rfl dX11_setWindow_20 ?_
  refine lv_sipush (v := 1394) hx hb dX11_setWindow_23 (by decide) ?_
  refine lv_aload_n hx hb dX11_setWindow_26 rfl (lv_at hl 0 rfl) ?_
  refine x_get hx hb hts hown hK hW (hI.2 0 (by decide)) uI_o (hI.1 0 _) rfl inX11 1 (by decide) t_741 rfl dX11_setWindow_27 ?_
  refine lv_aload_n hx hb dX11_setWindow_30 rfl (lv_at hl 0 rfl) ?_
  refine x_get hx hb hts hown hK hW (hI.2 0 (by decide)) uI_o (hI.1 0 _) rfl inX11 2 (by decide) t_742 rfl dX11_setWindow_31 ?_
  refine lv_sipush (v := 1393) hx hb dX11_setWindow_34 (by decide) ?_
  obtain ⟨hi6, hf⟩ := rd_some hf
  refine x_iald hx hb hK hW (hI.2 1 (by decide)) uI_o (hI.1 1 _) hi6 dX11_setWindow_37 ?_
  generalize g5 1 ((1393 : Int32)).toNatClampNeg = v7 at hf ⊢
  refine lv_isub hx hb dX11_setWindow_38 ?_
  refine lv_iconst (v := 4) hx hb dX11_setWindow_39 (by decide) ?_
  refine lv_imul hx hb dX11_setWindow_40 ?_
  refine lv_iconst (v := 5) hx hb dX11_setWindow_41 (by decide) ?_
  refine lv_idiv hx hb dX11_setWindow_42 (by decide) ?_
  obtain ⟨hi8, hf⟩ := wr_some hf
  refine x_iast hx hb hK hW (hI.2 1 (by decide)) uI_o (fun _ => (hI.1 1 _)) hi8 uC_leaf dX11_setWindow_43 (fun H locs hW => ?_)
  generalize (va_up g5 1 (upd (g5 1) ((1394 : Int32)).toNatClampNeg ((((g5 0 1) - v7) * (4 : Int32)) / (5 : Int32)))) = g9 at hf hW
  exact x_vret hx hb hr hlk hK hW (congrArg (fun q => (uI M t i q)) (Option.some.inj hf)) dX11_setWindow_44
def f11_forgetTimes_b2 (rec2 : Int32 → Sg → Option Sg) (w1 : Int32) (g : Sg) : Option Sg :=
  (if (100 : Int32) ≤ w1 then (some g) else (wr 1805 ((1705 : Int32) + w1) (va_up g 1 (upd (g 1) (((1705 : Int32) + w1)).toNatClampNeg (0 : Int32))) (fun g3 => (rec2 (w1 + (1 : Int32)) g3))))
def f11_forgetTimes_l2 : Nat → Int32 → Sg → Option Sg
  | 0 => fun _ _ => none
  | k + 1 => f11_forgetTimes_b2 (f11_forgetTimes_l2 k)
def f11_forgetTimes (g : Sg) : Option Sg :=
  (f11_forgetTimes_l2 NF (0 : Int32) g)
set_option maxHeartbeats 4000000 in
set_option maxRecDepth 100000 in
theorem f11_forgetTimes_ok (l : Launch) (D : va_G) (cy : Nat → ClassId) (ad : Nat → Nat → Nat → Nat) (ns : List (Nat × Nat × Nat)) (M : Me) (t i : Nat) (hI : IsModel cy ad ns t i) (g : Sg) (m2 : Sg)  (hf : f11_forgetTimes g = some m2) : Cv l yX11_forgetTimes (.code yX11_forgetTimes cX11_forgetTimes 2 none :: tk_tb) { frames := 0, cells := 0, slots := 0, locals := 0 } D cy ad ns [.ref (ad t i 0)] (uI M t i g) (uI M t i m2) := by
  refine Cv.of (by decide) (Nat.le_of_ble_eq_true rfl) ?_
  intro p e s m below meth c ls hE hW hl
  obtain ⟨hx, hb, hr, hml, hown, hts, hlk, hK⟩ := hE
  have hA : ∀ q : Nat, s.heap.size ≤ q → Aw ad ns s.heap.size q := fun q h => Or.inr h
  have hl : lv_has ls 2 [(0, .ref (ad t i 0))] := hl
  unfold f11_forgetTimes at hf
  refine lv_iconst (v := 0) hx hb dX11_forgetTimes_0 (by decide) ?_
  refine lv_istore_n (lv' := [(1, .int (0 : Int32)), (0, .ref (ad t i 0))]) hx hb dX11_forgetTimes_1 rfl hl (by decide) rfl (fun ls hl => ?_)
  have L2 : ∀ (k : Nat) (w1 : Int32) (g : Sg) (H : Heap) (locs : List Loc) (ls : Array Slot), f11_forgetTimes_l2 k w1 g = some m2 → Wl D cy ad ns (Aw ad ns s.heap.size) s.heap (uI M t i g) H locs → lv_has ls 2 [(0, .ref (ad t i 0)), (1, .int w1)] → W p l e { frames := 0, cells := 0, slots := 0, locals := 0 } s m ([.ref (ad t i 0)] : List Value).toArray below meth c H locs 0 0 (QV below D cy ad ns [.ref (ad t i 0)] s (uI M t i m2)) (F0 m 2 ls []) := by
    intro k
    induction k with
    | zero => intro w1 g H locs ls hf; exact absurd hf (by simp [f11_forgetTimes_l2])
    | succ k2 ih2 =>
      intro w1 g H locs ls hf hW hl
      have hf : f11_forgetTimes_b2 (f11_forgetTimes_l2 k2) w1 g = some m2 := hf
      unfold f11_forgetTimes_b2 at hf
      refine lv_iload_n hx hb dX11_forgetTimes_2 rfl (lv_at hl 1 rfl) ?_
      refine lv_bipush (v := 100) hx hb dX11_forgetTimes_3 (by decide) ?_
      refine lv_icmp_ge (tgt := 25) hx hb dX11_forgetTimes_5 (by decide) (fun c1 => ?_) (fun c1 => ?_)
      · replace hf := (if_pos c1).symm.trans hf
        exact x_vret hx hb hr hlk hK hW (congrArg (fun q => (uI M t i q)) (Option.some.inj hf)) dX11_forgetTimes_25
      · replace hf := (if_neg c1).symm.trans hf
        refine lv_aload_n hx hb dX11_forgetTimes_8 rfl (lv_at hl 0 rfl) ?_
        refine x_get hx hb hts hown hK hW (hI.2 0 (by decide)) uI_o (hI.1 0 _) rfl inX11 2 (by decide) t_742 rfl dX11_forgetTimes_9 ?_
        refine lv_sipush (v := 1705) hx hb dX11_forgetTimes_12 (by decide) ?_
        refine lv_iload_n hx hb dX11_forgetTimes_15 rfl (lv_at hl 1 rfl) ?_
        refine lv_iadd hx hb dX11_forgetTimes_16 ?_
        refine lv_iconst (v := 0) hx hb dX11_forgetTimes_17 (by decide) ?_
        obtain ⟨hi2, hf⟩ := wr_some hf
        refine x_iast hx hb hK hW (hI.2 1 (by decide)) uI_o (fun _ => (hI.1 1 _)) hi2 uC_leaf dX11_forgetTimes_18 (fun H locs hW => ?_)
        generalize (va_up g 1 (upd (g 1) (((1705 : Int32) + w1)).toNatClampNeg (0 : Int32))) = g3 at hf hW
        refine lv_iinc (v := (w1 + (1 : Int32))) (lv' := [(1, .int (w1 + (1 : Int32))), (0, .ref (ad t i 0))]) hx hb dX11_forgetTimes_19 hl (k := 1) rfl (by first | rfl | decide) (by decide) rfl (fun ls hl => ?_)
        refine lv_goto (tgt := 2) hx hb dX11_forgetTimes_22 (by decide) ?_
        exact ih2 _ _ _ _ _ hf hW (lv_sub hl [1, 0] rfl)
  exact L2 NF _ _ _ _ _ hf hW (lv_sub hl [1, 0] rfl)
def f11_place (a1 : Int32) (a2 : Int32) (a3 : Int32) (g : Sg) : Option (Int32 × Sg) :=
  ((f11_in a1 (0 : Int32) ((g 0 0) - (1 : Int32))).bind (fun r2 => (if r2 = 0 then (some ((-2 : Int32), g)) else ((f11_isKey a2).bind (fun r6 => (if r6 = 0 then (some ((-2 : Int32), g)) else ((f11_in a3 (0 : Int32) (63 : Int32)).bind (fun r10 => (if r10 = 0 then (some ((-2 : Int32), g)) else (rd 1805 (g 1) (((0 : Int32) + ((100 : Int32) * a1)) + a2) (fun v14 => (wr 1805 (((0 : Int32) + ((100 : Int32) * a1)) + a2) (va_up g 1 (upd (g 1) ((((0 : Int32) + ((100 : Int32) * a1)) + a2)).toNatClampNeg a3)) (fun g16 => ((f11_forgetTimes g16).bind (fun g18 => (some (v14, g18)))))))))))))))))
set_option maxHeartbeats 4000000 in
set_option maxRecDepth 100000 in
theorem f11_place_ok (l : Launch) (D : va_G) (cy : Nat → ClassId) (ad : Nat → Nat → Nat → Nat) (ns : List (Nat × Nat × Nat)) (M : Me) (t i : Nat) (hI : IsModel cy ad ns t i) (g : Sg) (a1 : Int32) (a2 : Int32) (a3 : Int32) (r : Int32) (m2 : Sg)  (hf : f11_place a1 a2 a3 g = some (r, m2)) : Ci l yX11_place (.code yX11_place cX11_place 5 (some .int) :: tk_tb) { frames := 2, cells := 0, slots := 0, locals := 42 } D cy ad ns [.ref (ad t i 0), .int a1, .int a2, .int a3] (uI M t i g) r (uI M t i m2) := by
  refine Ci.of (by decide) (Nat.le_of_ble_eq_true rfl) ?_
  intro p e s m below meth c ls hE hW hl
  obtain ⟨hx, hb, hr, hml, hown, hts, hlk, hK⟩ := hE
  have hA : ∀ q : Nat, s.heap.size ≤ q → Aw ad ns s.heap.size q := fun q h => Or.inr h
  have hl : lv_has ls 5 [(0, .ref (ad t i 0)), (1, .int a1), (2, .int a2), (3, .int a3)] := hl
  unfold f11_place at hf
  refine lv_iload_n hx hb dX11_place_0 rfl (lv_at hl 1 rfl) ?_
  refine lv_iconst (v := 0) hx hb dX11_place_1 (by decide) ?_
  refine lv_aload_n hx hb dX11_place_2 rfl (lv_at hl 0 rfl) ?_
  refine x_get hx hb hts hown hK hW (hI.2 0 (by decide)) uI_o (hI.1 0 _) rfl inX11 0 (by decide) t_740 rfl dX11_place_3 ?_
  refine lv_iconst (v := 1) hx hb dX11_place_6 (by decide) ?_
  refine lv_isub hx hb dX11_place_7 ?_
  obtain ⟨r2, hc1, hf⟩ := bd_some hf
  have hC3 := f11_in_ok l D cy ad ns (uI M t i g) a1 (0 : Int32) ((g 0 0) - (1 : Int32)) r2 hc1
  refine x_si (n := 3) (As := [.int a1, .int (0 : Int32), .int ((g 0 0) - (1 : Int32))]) (rest := []) hx hb hml hts hown hK hW hA hC3 t_797 t_798 t_14 t_799 rfl (by decide +kernel) rfl rfl ⟨Nat.le_of_ble_eq_true rfl, Nat.le_of_ble_eq_true rfl⟩ hl.1 rfl (lv_room (Nat.le_of_ble_eq_true rfl)) dX11_place_8 ⟨(Nat.le_of_ble_eq_true rfl), (Nat.le_of_ble_eq_true rfl)⟩ (fun H locs hW => ?_)
  refine lv_if_eq (tgt := 31) hx hb dX11_place_11 (by decide) (fun c4 => ?_) (fun c4 => ?_)
  · replace hf := (if_pos c4).symm.trans hf
    refine lv_bipush (v := -2) hx hb dX11_place_31 (by decide) ?_
    exact x_iret hx hb hr hlk hK hW (congrArg Prod.fst (Option.some.inj hf)) (congrArg (fun q => (uI M t i (Prod.snd q))) (Option.some.inj hf)) dX11_place_33
  · replace hf := (if_neg c4).symm.trans hf
    refine lv_iload_n hx hb dX11_place_14 rfl (lv_at hl 2 rfl) ?_
    obtain ⟨r6, hc5, hf⟩ := bd_some hf
    have hC7 := f11_isKey_ok l D cy ad ns (uI M t i g) a2 r6 hc5
    refine x_si (n := 1) (As := [.int a2]) (rest := []) hx hb hml hts hown hK hW hA hC7 t_800 t_801 t_14 t_802 rfl (by decide +kernel) rfl rfl ⟨Nat.le_of_ble_eq_true rfl, Nat.le_of_ble_eq_true rfl⟩ hl.1 rfl (lv_room (Nat.le_of_ble_eq_true rfl)) dX11_place_15 ⟨(Nat.le_of_ble_eq_true rfl), (Nat.le_of_ble_eq_true rfl)⟩ (fun H locs hW => ?_)
    refine lv_if_eq (tgt := 31) hx hb dX11_place_18 (by decide) (fun c8 => ?_) (fun c8 => ?_)
    · replace hf := (if_pos c8).symm.trans hf
      refine lv_bipush (v := -2) hx hb dX11_place_31 (by decide) ?_
      exact x_iret hx hb hr hlk hK hW (congrArg Prod.fst (Option.some.inj hf)) (congrArg (fun q => (uI M t i (Prod.snd q))) (Option.some.inj hf)) dX11_place_33
    · replace hf := (if_neg c8).symm.trans hf
      refine lv_iload_n hx hb dX11_place_21 rfl (lv_at hl 3 rfl) ?_
      refine lv_iconst (v := 0) hx hb dX11_place_22 (by decide) ?_
      refine lv_bipush (v := 63) hx hb dX11_place_23 (by decide) ?_
      obtain ⟨r10, hc9, hf⟩ := bd_some hf
      have hC11 := f11_in_ok l D cy ad ns (uI M t i g) a3 (0 : Int32) (63 : Int32) r10 hc9
      refine x_si (n := 3) (As := [.int a3, .int (0 : Int32), .int (63 : Int32)]) (rest := []) hx hb hml hts hown hK hW hA hC11 t_797 t_798 t_14 t_799 rfl (by decide +kernel) rfl rfl ⟨Nat.le_of_ble_eq_true rfl, Nat.le_of_ble_eq_true rfl⟩ hl.1 rfl (lv_room (Nat.le_of_ble_eq_true rfl)) dX11_place_25 ⟨(Nat.le_of_ble_eq_true rfl), (Nat.le_of_ble_eq_true rfl)⟩ (fun H locs hW => ?_)
      refine lv_if_ne (tgt := 34) hx hb dX11_place_28 (by decide) (fun c12 => ?_) (fun c12 => ?_)
      · replace hf := (if_neg c12).symm.trans hf
        refine lv_aload_n hx hb dX11_place_34 rfl (lv_at hl 0 rfl) ?_
        refine x_get hx hb hts hown hK hW (hI.2 0 (by decide)) uI_o (hI.1 0 _) rfl inX11 2 (by decide) t_742 rfl dX11_place_35 ?_
        refine lv_iconst (v := 0) hx hb dX11_place_38 (by decide) ?_
        refine lv_bipush (v := 100) hx hb dX11_place_39 (by decide) ?_
        refine lv_iload_n hx hb dX11_place_41 rfl (lv_at hl 1 rfl) ?_
        refine lv_imul hx hb dX11_place_42 ?_
        refine lv_iadd hx hb dX11_place_43 ?_
        refine lv_iload_n hx hb dX11_place_44 rfl (lv_at hl 2 rfl) ?_
        refine lv_iadd hx hb dX11_place_45 ?_
        obtain ⟨hi13, hf⟩ := rd_some hf
        refine x_iald hx hb hK hW (hI.2 1 (by decide)) uI_o (hI.1 1 _) hi13 dX11_place_46 ?_
        generalize g 1 ((((0 : Int32) + ((100 : Int32) * a1)) + a2)).toNatClampNeg = v14 at hf ⊢
        refine lv_istore (lv' := [(4, .int v14), (0, .ref (ad t i 0)), (1, .int a1), (2, .int a2), (3, .int a3)]) hx hb dX11_place_47 hl (by decide) rfl (fun ls hl => ?_)
        refine lv_aload_n hx hb dX11_place_49 rfl (lv_at hl 1 rfl) ?_
        refine x_get hx hb hts hown hK hW (hI.2 0 (by decide)) uI_o (hI.1 0 _) rfl inX11 2 (by decide) t_742 rfl dX11_place_50 ?_
        refine lv_iconst (v := 0) hx hb dX11_place_53 (by decide) ?_
        refine lv_bipush (v := 100) hx hb dX11_place_54 (by decide) ?_
        refine lv_iload_n hx hb dX11_place_56 rfl (lv_at hl 2 rfl) ?_
        refine lv_imul hx hb dX11_place_57 ?_
        refine lv_iadd hx hb dX11_place_58 ?_
        refine lv_iload_n hx hb dX11_place_59 rfl (lv_at hl 3 rfl) ?_
        refine lv_iadd hx hb dX11_place_60 ?_
        refine lv_iload_n hx hb dX11_place_61 rfl (lv_at hl 4 rfl) ?_
        obtain ⟨hi15, hf⟩ := wr_some hf
        refine x_iast hx hb hK hW (hI.2 1 (by decide)) uI_o (fun _ => (hI.1 1 _)) hi15 uC_leaf dX11_place_62 (fun H locs hW => ?_)
        generalize (va_up g 1 (upd (g 1) ((((0 : Int32) + ((100 : Int32) * a1)) + a2)).toNatClampNeg a3)) = g16 at hf hW
        refine lv_aload_n hx hb dX11_place_63 rfl (lv_at hl 1 rfl) ?_
        obtain ⟨g18, hc17, hf⟩ := bd_some hf
        have hC19 := f11_forgetTimes_ok l D cy ad ns M t i hI g16 g18 hc17
        refine x_vv (n := 0) (As := []) (rest := []) hx hb hml hts hown hK hW hA hC19 (hI.2 0 (by decide)) uI_o (hI.1 0 _) rfl rfl t_803 t_805 p_25 t_14 t_806 rfl (by decide +kernel) rfl rfl ⟨Nat.le_of_ble_eq_true rfl, Nat.le_of_ble_eq_true rfl⟩ hl.1 rfl (lv_room (Nat.le_of_ble_eq_true rfl)) dX11_place_64 ⟨(Nat.le_of_ble_eq_true rfl), (Nat.le_of_ble_eq_true rfl)⟩ (fun H locs hW => ?_)
        refine lv_iload hx hb dX11_place_67 (lv_at hl 0 rfl) ?_
        exact x_iret hx hb hr hlk hK hW (congrArg Prod.fst (Option.some.inj hf)) (congrArg (fun q => (uI M t i (Prod.snd q))) (Option.some.inj hf)) dX11_place_69
      · replace hf := (if_pos c12).symm.trans hf
        refine lv_bipush (v := -2) hx hb dX11_place_31 (by decide) ?_
        exact x_iret hx hb hr hlk hK hW (congrArg Prod.fst (Option.some.inj hf)) (congrArg (fun q => (uI M t i (Prod.snd q))) (Option.some.inj hf)) dX11_place_33
def f11_door (a1 : Int32) (a2 : Int32) (a3 : Int32) (g : Sg) : Option (Int32 × Sg) :=
  ((f11_in a1 (0 : Int32) (1 : Int32)).bind (fun r2 => (if r2 = 0 then (some ((-2 : Int32), g)) else ((f11_isKey a2).bind (fun r6 => (if r6 = 0 then (some ((-2 : Int32), g)) else ((f11_in a3 (0 : Int32) (127 : Int32)).bind (fun r10 => (if r10 = 0 then (some ((-2 : Int32), g)) else (rd 1805 (g 1) (((400 : Int32) + ((100 : Int32) * a1)) + a2) (fun v14 => (wr 1805 (((400 : Int32) + ((100 : Int32) * a1)) + a2) (va_up g 1 (upd (g 1) ((((400 : Int32) + ((100 : Int32) * a1)) + a2)).toNatClampNeg a3)) (fun g16 => ((f11_forgetTimes g16).bind (fun g18 => (some (v14, g18)))))))))))))))))
set_option maxHeartbeats 4000000 in
set_option maxRecDepth 100000 in
theorem f11_door_ok (l : Launch) (D : va_G) (cy : Nat → ClassId) (ad : Nat → Nat → Nat → Nat) (ns : List (Nat × Nat × Nat)) (M : Me) (t i : Nat) (hI : IsModel cy ad ns t i) (g : Sg) (a1 : Int32) (a2 : Int32) (a3 : Int32) (r : Int32) (m2 : Sg)  (hf : f11_door a1 a2 a3 g = some (r, m2)) : Ci l yX11_door (.code yX11_door cX11_door 5 (some .int) :: tk_tb) { frames := 2, cells := 0, slots := 0, locals := 42 } D cy ad ns [.ref (ad t i 0), .int a1, .int a2, .int a3] (uI M t i g) r (uI M t i m2) := by
  refine Ci.of (by decide) (Nat.le_of_ble_eq_true rfl) ?_
  intro p e s m below meth c ls hE hW hl
  obtain ⟨hx, hb, hr, hml, hown, hts, hlk, hK⟩ := hE
  have hA : ∀ q : Nat, s.heap.size ≤ q → Aw ad ns s.heap.size q := fun q h => Or.inr h
  have hl : lv_has ls 5 [(0, .ref (ad t i 0)), (1, .int a1), (2, .int a2), (3, .int a3)] := hl
  unfold f11_door at hf
  refine lv_iload_n hx hb dX11_door_0 rfl (lv_at hl 1 rfl) ?_
  refine lv_iconst (v := 0) hx hb dX11_door_1 (by decide) ?_
  refine lv_iconst (v := 1) hx hb dX11_door_2 (by decide) ?_
  obtain ⟨r2, hc1, hf⟩ := bd_some hf
  have hC3 := f11_in_ok l D cy ad ns (uI M t i g) a1 (0 : Int32) (1 : Int32) r2 hc1
  refine x_si (n := 3) (As := [.int a1, .int (0 : Int32), .int (1 : Int32)]) (rest := []) hx hb hml hts hown hK hW hA hC3 t_797 t_798 t_14 t_799 rfl (by decide +kernel) rfl rfl ⟨Nat.le_of_ble_eq_true rfl, Nat.le_of_ble_eq_true rfl⟩ hl.1 rfl (lv_room (Nat.le_of_ble_eq_true rfl)) dX11_door_3 ⟨(Nat.le_of_ble_eq_true rfl), (Nat.le_of_ble_eq_true rfl)⟩ (fun H locs hW => ?_)
  refine lv_if_eq (tgt := 26) hx hb dX11_door_6 (by decide) (fun c4 => ?_) (fun c4 => ?_)
  · replace hf := (if_pos c4).symm.trans hf
    refine lv_bipush (v := -2) hx hb dX11_door_26 (by decide) ?_
    exact x_iret hx hb hr hlk hK hW (congrArg Prod.fst (Option.some.inj hf)) (congrArg (fun q => (uI M t i (Prod.snd q))) (Option.some.inj hf)) dX11_door_28
  · replace hf := (if_neg c4).symm.trans hf
    refine lv_iload_n hx hb dX11_door_9 rfl (lv_at hl 2 rfl) ?_
    obtain ⟨r6, hc5, hf⟩ := bd_some hf
    have hC7 := f11_isKey_ok l D cy ad ns (uI M t i g) a2 r6 hc5
    refine x_si (n := 1) (As := [.int a2]) (rest := []) hx hb hml hts hown hK hW hA hC7 t_800 t_801 t_14 t_802 rfl (by decide +kernel) rfl rfl ⟨Nat.le_of_ble_eq_true rfl, Nat.le_of_ble_eq_true rfl⟩ hl.1 rfl (lv_room (Nat.le_of_ble_eq_true rfl)) dX11_door_10 ⟨(Nat.le_of_ble_eq_true rfl), (Nat.le_of_ble_eq_true rfl)⟩ (fun H locs hW => ?_)
    refine lv_if_eq (tgt := 26) hx hb dX11_door_13 (by decide) (fun c8 => ?_) (fun c8 => ?_)
    · replace hf := (if_pos c8).symm.trans hf
      refine lv_bipush (v := -2) hx hb dX11_door_26 (by decide) ?_
      exact x_iret hx hb hr hlk hK hW (congrArg Prod.fst (Option.some.inj hf)) (congrArg (fun q => (uI M t i (Prod.snd q))) (Option.some.inj hf)) dX11_door_28
    · replace hf := (if_neg c8).symm.trans hf
      refine lv_iload_n hx hb dX11_door_16 rfl (lv_at hl 3 rfl) ?_
      refine lv_iconst (v := 0) hx hb dX11_door_17 (by decide) ?_
      refine lv_bipush (v := 127) hx hb dX11_door_18 (by decide) ?_
      obtain ⟨r10, hc9, hf⟩ := bd_some hf
      have hC11 := f11_in_ok l D cy ad ns (uI M t i g) a3 (0 : Int32) (127 : Int32) r10 hc9
      refine x_si (n := 3) (As := [.int a3, .int (0 : Int32), .int (127 : Int32)]) (rest := []) hx hb hml hts hown hK hW hA hC11 t_797 t_798 t_14 t_799 rfl (by decide +kernel) rfl rfl ⟨Nat.le_of_ble_eq_true rfl, Nat.le_of_ble_eq_true rfl⟩ hl.1 rfl (lv_room (Nat.le_of_ble_eq_true rfl)) dX11_door_20 ⟨(Nat.le_of_ble_eq_true rfl), (Nat.le_of_ble_eq_true rfl)⟩ (fun H locs hW => ?_)
      refine lv_if_ne (tgt := 29) hx hb dX11_door_23 (by decide) (fun c12 => ?_) (fun c12 => ?_)
      · replace hf := (if_neg c12).symm.trans hf
        refine lv_aload_n hx hb dX11_door_29 rfl (lv_at hl 0 rfl) ?_
        refine x_get hx hb hts hown hK hW (hI.2 0 (by decide)) uI_o (hI.1 0 _) rfl inX11 2 (by decide) t_742 rfl dX11_door_30 ?_
        refine lv_sipush (v := 400) hx hb dX11_door_33 (by decide) ?_
        refine lv_bipush (v := 100) hx hb dX11_door_36 (by decide) ?_
        refine lv_iload_n hx hb dX11_door_38 rfl (lv_at hl 1 rfl) ?_
        refine lv_imul hx hb dX11_door_39 ?_
        refine lv_iadd hx hb dX11_door_40 ?_
        refine lv_iload_n hx hb dX11_door_41 rfl (lv_at hl 2 rfl) ?_
        refine lv_iadd hx hb dX11_door_42 ?_
        obtain ⟨hi13, hf⟩ := rd_some hf
        refine x_iald hx hb hK hW (hI.2 1 (by decide)) uI_o (hI.1 1 _) hi13 dX11_door_43 ?_
        generalize g 1 ((((400 : Int32) + ((100 : Int32) * a1)) + a2)).toNatClampNeg = v14 at hf ⊢
        refine lv_istore (lv' := [(4, .int v14), (0, .ref (ad t i 0)), (1, .int a1), (2, .int a2), (3, .int a3)]) hx hb dX11_door_44 hl (by decide) rfl (fun ls hl => ?_)
        refine lv_aload_n hx hb dX11_door_46 rfl (lv_at hl 1 rfl) ?_
        refine x_get hx hb hts hown hK hW (hI.2 0 (by decide)) uI_o (hI.1 0 _) rfl inX11 2 (by decide) t_742 rfl dX11_door_47 ?_
        refine lv_sipush (v := 400) hx hb dX11_door_50 (by decide) ?_
        refine lv_bipush (v := 100) hx hb dX11_door_53 (by decide) ?_
        refine lv_iload_n hx hb dX11_door_55 rfl (lv_at hl 2 rfl) ?_
        refine lv_imul hx hb dX11_door_56 ?_
        refine lv_iadd hx hb dX11_door_57 ?_
        refine lv_iload_n hx hb dX11_door_58 rfl (lv_at hl 3 rfl) ?_
        refine lv_iadd hx hb dX11_door_59 ?_
        refine lv_iload_n hx hb dX11_door_60 rfl (lv_at hl 4 rfl) ?_
        obtain ⟨hi15, hf⟩ := wr_some hf
        refine x_iast hx hb hK hW (hI.2 1 (by decide)) uI_o (fun _ => (hI.1 1 _)) hi15 uC_leaf dX11_door_61 (fun H locs hW => ?_)
        generalize (va_up g 1 (upd (g 1) ((((400 : Int32) + ((100 : Int32) * a1)) + a2)).toNatClampNeg a3)) = g16 at hf hW
        refine lv_aload_n hx hb dX11_door_62 rfl (lv_at hl 1 rfl) ?_
        obtain ⟨g18, hc17, hf⟩ := bd_some hf
        have hC19 := f11_forgetTimes_ok l D cy ad ns M t i hI g16 g18 hc17
        refine x_vv (n := 0) (As := []) (rest := []) hx hb hml hts hown hK hW hA hC19 (hI.2 0 (by decide)) uI_o (hI.1 0 _) rfl rfl t_803 t_805 p_25 t_14 t_806 rfl (by decide +kernel) rfl rfl ⟨Nat.le_of_ble_eq_true rfl, Nat.le_of_ble_eq_true rfl⟩ hl.1 rfl (lv_room (Nat.le_of_ble_eq_true rfl)) dX11_door_63 ⟨(Nat.le_of_ble_eq_true rfl), (Nat.le_of_ble_eq_true rfl)⟩ (fun H locs hW => ?_)
        refine lv_iload hx hb dX11_door_66 (lv_at hl 0 rfl) ?_
        exact x_iret hx hb hr hlk hK hW (congrArg Prod.fst (Option.some.inj hf)) (congrArg (fun q => (uI M t i (Prod.snd q))) (Option.some.inj hf)) dX11_door_68
      · replace hf := (if_pos c12).symm.trans hf
        refine lv_bipush (v := -2) hx hb dX11_door_26 (by decide) ?_
        exact x_iret hx hb hr hlk hK hW (congrArg Prod.fst (Option.some.inj hf)) (congrArg (fun q => (uI M t i (Prod.snd q))) (Option.some.inj hf)) dX11_door_28
def f11_rule_j137 (w1 : Int32) (w4 : Int32) (g : Sg) : Option (Int32 × Sg) :=
  (if w1 ≤ (3 : Int32) then (some (w4, g)) else (wr 1805 (1402 : Int32) (va_up g 1 (upd (g 1) ((1402 : Int32)).toNatClampNeg (0 : Int32))) (fun g36 => (wr 1805 (1401 : Int32) (va_up g36 1 (upd (g36 1) ((1401 : Int32)).toNatClampNeg (0 : Int32))) (fun g38 => (wr 1805 (1403 : Int32) (va_up g38 1 (upd (g38 1) ((1403 : Int32)).toNatClampNeg (0 : Int32))) (fun g40 => (some (w4, g40)))))))))
def f11_rule_j98 (w1 : Int32) (w2 : Int32) (w3 : Int32) (g : Sg) : Option (Int32 × Sg) :=
  (if w3 = 0 then (some ((-2 : Int32), g)) else (rd 1805 (g 1) ((600 : Int32) + w1) (fun v27 => (wr 1805 ((600 : Int32) + w1) (va_up g 1 (upd (g 1) (((600 : Int32) + w1)).toNatClampNeg w2)) (fun g29 => (if (2 : Int32) ≤ w1 then (f11_rule_j137 w1 v27 g29) else ((f11_forgetTimes g29).bind (fun g32 => (f11_rule_j137 w1 v27 g32)))))))))
def f11_rule (a1 : Int32) (a2 : Int32) (g : Sg) : Option (Int32 × Sg) :=
  (if a1 = 0 then ((f11_in a2 (0 : Int32) (1 : Int32)).bind (fun r3 => (f11_rule_j98 a1 a2 r3 g))) else (if a1 = 1 then ((f11_in a2 (0 : Int32) (1 : Int32)).bind (fun r7 => (f11_rule_j98 a1 a2 r7 g))) else (if a1 = 2 then ((f11_in a2 (10 : Int32) (1000 : Int32)).bind (fun r11 => (f11_rule_j98 a1 a2 r11 g))) else (if a1 = 3 then ((f11_in a2 (0 : Int32) (2 : Int32)).bind (fun r15 => (f11_rule_j98 a1 a2 r15 g))) else (if a1 = 4 then ((f11_in a2 (0 : Int32) (20 : Int32)).bind (fun r19 => (f11_rule_j98 a1 a2 r19 g))) else (if a1 = 5 then ((f11_in a2 (5 : Int32) (500 : Int32)).bind (fun r23 => (f11_rule_j98 a1 a2 r23 g))) else (f11_rule_j98 a1 a2 (0 : Int32) g)))))))
set_option maxHeartbeats 4000000 in
set_option maxRecDepth 100000 in
theorem f11_rule_ok (l : Launch) (D : va_G) (cy : Nat → ClassId) (ad : Nat → Nat → Nat → Nat) (ns : List (Nat × Nat × Nat)) (M : Me) (t i : Nat) (hI : IsModel cy ad ns t i) (g : Sg) (a1 : Int32) (a2 : Int32) (r : Int32) (m2 : Sg)  (hf : f11_rule a1 a2 g = some (r, m2)) : Ci l yX11_rule (.code yX11_rule cX11_rule 5 (some .int) :: tk_tb) { frames := 1, cells := 0, slots := 0, locals := 22 } D cy ad ns [.ref (ad t i 0), .int a1, .int a2] (uI M t i g) r (uI M t i m2) := by
  refine Ci.of (by decide) (Nat.le_of_ble_eq_true rfl) ?_
  intro p e s m below meth c ls hE hW hl
  obtain ⟨hx, hb, hr, hml, hown, hts, hlk, hK⟩ := hE
  have hA : ∀ q : Nat, s.heap.size ≤ q → Aw ad ns s.heap.size q := fun q h => Or.inr h
  have hl : lv_has ls 5 [(0, .ref (ad t i 0)), (1, .int a1), (2, .int a2)] := hl
  unfold f11_rule at hf
  have J137 : ∀ (w1 : Int32) (w4 : Int32) (g : Sg) (H : Heap) (locs : List Loc) (ls : Array Slot), f11_rule_j137 w1 w4 g = some (r, m2) → Wl D cy ad ns (Aw ad ns s.heap.size) s.heap (uI M t i g) H locs → lv_has ls 5 [(0, .ref (ad t i 0)), (1, .int w1), (4, .int w4)] → W p l e { frames := 1, cells := 0, slots := 0, locals := 22 } s m ([.ref (ad t i 0), .int a1, .int a2] : List Value).toArray below meth c H locs 0 0 (QI below D cy ad ns [.ref (ad t i 0), .int a1, .int a2] s r (uI M t i m2)) (F0 m 137 ls []) := by
    intro w1 w4 g H locs ls hf hW hl
    unfold f11_rule_j137 at hf
    refine lv_iload_n hx hb dX11_rule_137 rfl (lv_at hl 1 rfl) ?_
    refine lv_iconst (v := 3) hx hb dX11_rule_138 (by decide) ?_
    refine lv_icmp_le (tgt := 169) hx hb dX11_rule_139 (by decide) (fun c34 => ?_) (fun c34 => ?_)
    · replace hf := (if_pos c34).symm.trans hf
      refine lv_iload hx hb dX11_rule_169 (lv_at hl 2 rfl) ?_
      exact x_iret hx hb hr hlk hK hW (congrArg Prod.fst (Option.some.inj hf)) (congrArg (fun q => (uI M t i (Prod.snd q))) (Option.some.inj hf)) dX11_rule_171
    · replace hf := (if_neg c34).symm.trans hf
      refine lv_aload_n hx hb dX11_rule_142 rfl (lv_at hl 0 rfl) ?_
      refine x_get hx hb hts hown hK hW (hI.2 0 (by decide)) uI_o (hI.1 0 _) rfl inX11 2 (by decide) t_742 rfl dX11_rule_143 ?_
      refine lv_sipush (v := 1402) hx hb dX11_rule_146 (by decide) ?_
      refine lv_iconst (v := 0) hx hb dX11_rule_149 (by decide) ?_
      obtain ⟨hi35, hf⟩ := wr_some hf
      refine x_iast hx hb hK hW (hI.2 1 (by decide)) uI_o (fun _ => (hI.1 1 _)) hi35 uC_leaf dX11_rule_150 (fun H locs hW => ?_)
      generalize (va_up g 1 (upd (g 1) ((1402 : Int32)).toNatClampNeg (0 : Int32))) = g36 at hf hW
      refine lv_aload_n hx hb dX11_rule_151 rfl (lv_at hl 0 rfl) ?_
      refine x_get hx hb hts hown hK hW (hI.2 0 (by decide)) uI_o (hI.1 0 _) rfl inX11 2 (by decide) t_742 rfl dX11_rule_152 ?_
      refine lv_sipush (v := 1401) hx hb dX11_rule_155 (by decide) ?_
      refine lv_iconst (v := 0) hx hb dX11_rule_158 (by decide) ?_
      obtain ⟨hi37, hf⟩ := wr_some hf
      refine x_iast hx hb hK hW (hI.2 1 (by decide)) uI_o (fun _ => (hI.1 1 _)) hi37 uC_leaf dX11_rule_159 (fun H locs hW => ?_)
      generalize (va_up g36 1 (upd (g36 1) ((1401 : Int32)).toNatClampNeg (0 : Int32))) = g38 at hf hW
      refine lv_aload_n hx hb dX11_rule_160 rfl (lv_at hl 0 rfl) ?_
      refine x_get hx hb hts hown hK hW (hI.2 0 (by decide)) uI_o (hI.1 0 _) rfl inX11 2 (by decide) t_742 rfl dX11_rule_161 ?_
      refine lv_sipush (v := 1403) hx hb dX11_rule_164 (by decide) ?_
      refine lv_iconst (v := 0) hx hb dX11_rule_167 (by decide) ?_
      obtain ⟨hi39, hf⟩ := wr_some hf
      refine x_iast hx hb hK hW (hI.2 1 (by decide)) uI_o (fun _ => (hI.1 1 _)) hi39 uC_leaf dX11_rule_168 (fun H locs hW => ?_)
      generalize (va_up g38 1 (upd (g38 1) ((1403 : Int32)).toNatClampNeg (0 : Int32))) = g40 at hf hW
      refine lv_iload hx hb dX11_rule_169 (lv_at hl 2 rfl) ?_
      exact x_iret hx hb hr hlk hK hW (congrArg Prod.fst (Option.some.inj hf)) (congrArg (fun q => (uI M t i (Prod.snd q))) (Option.some.inj hf)) dX11_rule_171
  have J98 : ∀ (w1 : Int32) (w2 : Int32) (w3 : Int32) (g : Sg) (H : Heap) (locs : List Loc) (ls : Array Slot), f11_rule_j98 w1 w2 w3 g = some (r, m2) → Wl D cy ad ns (Aw ad ns s.heap.size) s.heap (uI M t i g) H locs → lv_has ls 5 [(0, .ref (ad t i 0)), (1, .int w1), (2, .int w2), (3, .int w3)] → W p l e { frames := 1, cells := 0, slots := 0, locals := 22 } s m ([.ref (ad t i 0), .int a1, .int a2] : List Value).toArray below meth c H locs 0 0 (QI below D cy ad ns [.ref (ad t i 0), .int a1, .int a2] s r (uI M t i m2)) (F0 m 98 ls []) := by
    intro w1 w2 w3 g H locs ls hf hW hl
    unfold f11_rule_j98 at hf
    refine lv_iload_n hx hb dX11_rule_98 rfl (lv_at hl 3 rfl) ?_
    refine lv_if_ne (tgt := 105) hx hb dX11_rule_99 (by decide) (fun c25 => ?_) (fun c25 => ?_)
    · replace hf := (if_neg c25).symm.trans hf
      refine lv_aload_n hx hb dX11_rule_105 rfl (lv_at hl 0 rfl) ?_
      refine x_get hx hb hts hown hK hW (hI.2 0 (by decide)) uI_o (hI.1 0 _) rfl inX11 2 (by decide) t_742 rfl dX11_rule_106 ?_
      refine lv_sipush (v := 600) hx hb dX11_rule_109 (by decide) ?_
      refine lv_iload_n hx hb dX11_rule_112 rfl (lv_at hl 1 rfl) ?_
      refine lv_iadd hx hb dX11_rule_113 ?_
      obtain ⟨hi26, hf⟩ := rd_some hf
      refine x_iald hx hb hK hW (hI.2 1 (by decide)) uI_o (hI.1 1 _) hi26 dX11_rule_114 ?_
      generalize g 1 (((600 : Int32) + w1)).toNatClampNeg = v27 at hf ⊢
      refine lv_istore (lv' := [(4, .int v27), (0, .ref (ad t i 0)), (1, .int w1), (2, .int w2), (3, .int w3)]) hx hb dX11_rule_115 hl (by decide) rfl (fun ls hl => ?_)
      refine lv_aload_n hx hb dX11_rule_117 rfl (lv_at hl 1 rfl) ?_
      refine x_get hx hb hts hown hK hW (hI.2 0 (by decide)) uI_o (hI.1 0 _) rfl inX11 2 (by decide) t_742 rfl dX11_rule_118 ?_
      refine lv_sipush (v := 600) hx hb dX11_rule_121 (by decide) ?_
      refine lv_iload_n hx hb dX11_rule_124 rfl (lv_at hl 2 rfl) ?_
      refine lv_iadd hx hb dX11_rule_125 ?_
      refine lv_iload_n hx hb dX11_rule_126 rfl (lv_at hl 3 rfl) ?_
      obtain ⟨hi28, hf⟩ := wr_some hf
      refine x_iast hx hb hK hW (hI.2 1 (by decide)) uI_o (fun _ => (hI.1 1 _)) hi28 uC_leaf dX11_rule_127 (fun H locs hW => ?_)
      generalize (va_up g 1 (upd (g 1) (((600 : Int32) + w1)).toNatClampNeg w2)) = g29 at hf hW
      refine lv_iload_n hx hb dX11_rule_128 rfl (lv_at hl 2 rfl) ?_
      refine lv_iconst (v := 2) hx hb dX11_rule_129 (by decide) ?_
      refine lv_icmp_ge (tgt := 137) hx hb dX11_rule_130 (by decide) (fun c30 => ?_) (fun c30 => ?_)
      · replace hf := (if_pos c30).symm.trans hf
        exact J137 _ _ _ _ _ _ hf hW (lv_sub hl [1, 2, 0] rfl)
      · replace hf := (if_neg c30).symm.trans hf
        refine lv_aload_n hx hb dX11_rule_133 rfl (lv_at hl 1 rfl) ?_
        obtain ⟨g32, hc31, hf⟩ := bd_some hf
        have hC33 := f11_forgetTimes_ok l D cy ad ns M t i hI g29 g32 hc31
        refine x_vv (n := 0) (As := []) (rest := []) hx hb hml hts hown hK hW hA hC33 (hI.2 0 (by decide)) uI_o (hI.1 0 _) rfl rfl t_803 t_805 p_25 t_14 t_806 rfl (by decide +kernel) rfl rfl ⟨Nat.le_of_ble_eq_true rfl, Nat.le_of_ble_eq_true rfl⟩ hl.1 rfl (lv_room (Nat.le_of_ble_eq_true rfl)) dX11_rule_134 ⟨(Nat.le_of_ble_eq_true rfl), (Nat.le_of_ble_eq_true rfl)⟩ (fun H locs hW => ?_)
        exact J137 _ _ _ _ _ _ hf hW (lv_sub hl [1, 2, 0] rfl)
    · replace hf := (if_pos c25).symm.trans hf
      refine lv_bipush (v := -2) hx hb dX11_rule_102 (by decide) ?_
      exact x_iret hx hb hr hlk hK hW (congrArg Prod.fst (Option.some.inj hf)) (congrArg (fun q => (uI M t i (Prod.snd q))) (Option.some.inj hf)) dX11_rule_104
  refine lv_iload_n hx hb dX11_rule_0 rfl (lv_at hl 1 rfl) ?_
  by_cases c1 : a1 = 0
  · replace hf := (if_pos c1).symm.trans hf
    refine x_tab (v := 0) c1 hx hb dX11_rule_1 (by decide) (by decide) rfl (by decide) (tgt := 40) ?_
    refine lv_iload_n hx hb dX11_rule_40 rfl (lv_at hl 2 rfl) ?_
    refine lv_iconst (v := 0) hx hb dX11_rule_41 (by decide) ?_
    refine lv_iconst (v := 1) hx hb dX11_rule_42 (by decide) ?_
    obtain ⟨r3, hc2, hf⟩ := bd_some hf
    have hC4 := f11_in_ok l D cy ad ns (uI M t i g) a2 (0 : Int32) (1 : Int32) r3 hc2
    refine x_si (n := 3) (As := [.int a2, .int (0 : Int32), .int (1 : Int32)]) (rest := []) hx hb hml hts hown hK hW hA hC4 t_797 t_798 t_14 t_799 rfl (by decide +kernel) rfl rfl ⟨Nat.le_of_ble_eq_true rfl, Nat.le_of_ble_eq_true rfl⟩ hl.1 rfl (lv_room (Nat.le_of_ble_eq_true rfl)) dX11_rule_43 ⟨(Nat.le_of_ble_eq_true rfl), (Nat.le_of_ble_eq_true rfl)⟩ (fun H locs hW => ?_)
    refine lv_istore_n (lv' := [(3, .int r3), (0, .ref (ad t i 0)), (1, .int a1), (2, .int a2)]) hx hb dX11_rule_46 rfl hl (by decide) rfl (fun ls hl => ?_)
    refine lv_goto (tgt := 98) hx hb dX11_rule_47 (by decide) ?_
    exact J98 _ _ _ _ _ _ _ hf hW (lv_sub hl [1, 2, 3, 0] rfl)
  · replace hf := (if_neg c1).symm.trans hf
    by_cases c5 : a1 = 1
    · replace hf := (if_pos c5).symm.trans hf
      refine x_tab (v := 1) c5 hx hb dX11_rule_1 (by decide) (by decide) rfl (by decide) (tgt := 40) ?_
      refine lv_iload_n hx hb dX11_rule_40 rfl (lv_at hl 2 rfl) ?_
      refine lv_iconst (v := 0) hx hb dX11_rule_41 (by decide) ?_
      refine lv_iconst (v := 1) hx hb dX11_rule_42 (by decide) ?_
      obtain ⟨r7, hc6, hf⟩ := bd_some hf
      have hC8 := f11_in_ok l D cy ad ns (uI M t i g) a2 (0 : Int32) (1 : Int32) r7 hc6
      refine x_si (n := 3) (As := [.int a2, .int (0 : Int32), .int (1 : Int32)]) (rest := []) hx hb hml hts hown hK hW hA hC8 t_797 t_798 t_14 t_799 rfl (by decide +kernel) rfl rfl ⟨Nat.le_of_ble_eq_true rfl, Nat.le_of_ble_eq_true rfl⟩ hl.1 rfl (lv_room (Nat.le_of_ble_eq_true rfl)) dX11_rule_43 ⟨(Nat.le_of_ble_eq_true rfl), (Nat.le_of_ble_eq_true rfl)⟩ (fun H locs hW => ?_)
      refine lv_istore_n (lv' := [(3, .int r7), (0, .ref (ad t i 0)), (1, .int a1), (2, .int a2)]) hx hb dX11_rule_46 rfl hl (by decide) rfl (fun ls hl => ?_)
      refine lv_goto (tgt := 98) hx hb dX11_rule_47 (by decide) ?_
      exact J98 _ _ _ _ _ _ _ hf hW (lv_sub hl [1, 2, 3, 0] rfl)
    · replace hf := (if_neg c5).symm.trans hf
      by_cases c9 : a1 = 2
      · replace hf := (if_pos c9).symm.trans hf
        refine x_tab (v := 2) c9 hx hb dX11_rule_1 (by decide) (by decide) rfl (by decide) (tgt := 50) ?_
        refine lv_iload_n hx hb dX11_rule_50 rfl (lv_at hl 2 rfl) ?_
        refine lv_bipush (v := 10) hx hb dX11_rule_51 (by decide) ?_
        refine lv_sipush (v := 1000) hx hb dX11_rule_53 (by decide) ?_
        obtain ⟨r11, hc10, hf⟩ := bd_some hf
        have hC12 := f11_in_ok l D cy ad ns (uI M t i g) a2 (10 : Int32) (1000 : Int32) r11 hc10
        refine x_si (n := 3) (As := [.int a2, .int (10 : Int32), .int (1000 : Int32)]) (rest := []) hx hb hml hts hown hK hW hA hC12 t_797 t_798 t_14 t_799 rfl (by decide +kernel) rfl rfl ⟨Nat.le_of_ble_eq_true rfl, Nat.le_of_ble_eq_true rfl⟩ hl.1 rfl (lv_room (Nat.le_of_ble_eq_true rfl)) dX11_rule_56 ⟨(Nat.le_of_ble_eq_true rfl), (Nat.le_of_ble_eq_true rfl)⟩ (fun H locs hW => ?_)
        refine lv_istore_n (lv' := [(3, .int r11), (0, .ref (ad t i 0)), (1, .int a1), (2, .int a2)]) hx hb dX11_rule_59 rfl hl (by decide) rfl (fun ls hl => ?_)
        refine lv_goto (tgt := 98) hx hb dX11_rule_60 (by decide) ?_
        exact J98 _ _ _ _ _ _ _ hf hW (lv_sub hl [1, 2, 3, 0] rfl)
      · replace hf := (if_neg c9).symm.trans hf
        by_cases c13 : a1 = 3
        · replace hf := (if_pos c13).symm.trans hf
          refine x_tab (v := 3) c13 hx hb dX11_rule_1 (by decide) (by decide) rfl (by decide) (tgt := 63) ?_
          refine lv_iload_n hx hb dX11_rule_63 rfl (lv_at hl 2 rfl) ?_
          refine lv_iconst (v := 0) hx hb dX11_rule_64 (by decide) ?_
          refine lv_iconst (v := 2) hx hb dX11_rule_65 (by decide) ?_
          obtain ⟨r15, hc14, hf⟩ := bd_some hf
          have hC16 := f11_in_ok l D cy ad ns (uI M t i g) a2 (0 : Int32) (2 : Int32) r15 hc14
          refine x_si (n := 3) (As := [.int a2, .int (0 : Int32), .int (2 : Int32)]) (rest := []) hx hb hml hts hown hK hW hA hC16 t_797 t_798 t_14 t_799 rfl (by decide +kernel) rfl rfl ⟨Nat.le_of_ble_eq_true rfl, Nat.le_of_ble_eq_true rfl⟩ hl.1 rfl (lv_room (Nat.le_of_ble_eq_true rfl)) dX11_rule_66 ⟨(Nat.le_of_ble_eq_true rfl), (Nat.le_of_ble_eq_true rfl)⟩ (fun H locs hW => ?_)
          refine lv_istore_n (lv' := [(3, .int r15), (0, .ref (ad t i 0)), (1, .int a1), (2, .int a2)]) hx hb dX11_rule_69 rfl hl (by decide) rfl (fun ls hl => ?_)
          refine lv_goto (tgt := 98) hx hb dX11_rule_70 (by decide) ?_
          exact J98 _ _ _ _ _ _ _ hf hW (lv_sub hl [1, 2, 3, 0] rfl)
        · replace hf := (if_neg c13).symm.trans hf
          by_cases c17 : a1 = 4
          · replace hf := (if_pos c17).symm.trans hf
            refine x_tab (v := 4) c17 hx hb dX11_rule_1 (by decide) (by decide) rfl (by decide) (tgt := 73) ?_
            refine lv_iload_n hx hb dX11_rule_73 rfl (lv_at hl 2 rfl) ?_
            refine lv_iconst (v := 0) hx hb dX11_rule_74 (by decide) ?_
            refine lv_bipush (v := 20) hx hb dX11_rule_75 (by decide) ?_
            obtain ⟨r19, hc18, hf⟩ := bd_some hf
            have hC20 := f11_in_ok l D cy ad ns (uI M t i g) a2 (0 : Int32) (20 : Int32) r19 hc18
            refine x_si (n := 3) (As := [.int a2, .int (0 : Int32), .int (20 : Int32)]) (rest := []) hx hb hml hts hown hK hW hA hC20 t_797 t_798 t_14 t_799 rfl (by decide +kernel) rfl rfl ⟨Nat.le_of_ble_eq_true rfl, Nat.le_of_ble_eq_true rfl⟩ hl.1 rfl (lv_room (Nat.le_of_ble_eq_true rfl)) dX11_rule_77 ⟨(Nat.le_of_ble_eq_true rfl), (Nat.le_of_ble_eq_true rfl)⟩ (fun H locs hW => ?_)
            refine lv_istore_n (lv' := [(3, .int r19), (0, .ref (ad t i 0)), (1, .int a1), (2, .int a2)]) hx hb dX11_rule_80 rfl hl (by decide) rfl (fun ls hl => ?_)
            refine lv_goto (tgt := 98) hx hb dX11_rule_81 (by decide) ?_
            exact J98 _ _ _ _ _ _ _ hf hW (lv_sub hl [1, 2, 3, 0] rfl)
          · replace hf := (if_neg c17).symm.trans hf
            by_cases c21 : a1 = 5
            · replace hf := (if_pos c21).symm.trans hf
              refine x_tab (v := 5) c21 hx hb dX11_rule_1 (by decide) (by decide) rfl (by decide) (tgt := 84) ?_
              refine lv_iload_n hx hb dX11_rule_84 rfl (lv_at hl 2 rfl) ?_
              refine lv_iconst (v := 5) hx hb dX11_rule_85 (by decide) ?_
              refine lv_sipush (v := 500) hx hb dX11_rule_86 (by decide) ?_
              obtain ⟨r23, hc22, hf⟩ := bd_some hf
              have hC24 := f11_in_ok l D cy ad ns (uI M t i g) a2 (5 : Int32) (500 : Int32) r23 hc22
              refine x_si (n := 3) (As := [.int a2, .int (5 : Int32), .int (500 : Int32)]) (rest := []) hx hb hml hts hown hK hW hA hC24 t_797 t_798 t_14 t_799 rfl (by decide +kernel) rfl rfl ⟨Nat.le_of_ble_eq_true rfl, Nat.le_of_ble_eq_true rfl⟩ hl.1 rfl (lv_room (Nat.le_of_ble_eq_true rfl)) dX11_rule_89 ⟨(Nat.le_of_ble_eq_true rfl), (Nat.le_of_ble_eq_true rfl)⟩ (fun H locs hW => ?_)
              refine lv_istore_n (lv' := [(3, .int r23), (0, .ref (ad t i 0)), (1, .int a1), (2, .int a2)]) hx hb dX11_rule_92 rfl hl (by decide) rfl (fun ls hl => ?_)
              refine lv_goto (tgt := 98) hx hb dX11_rule_93 (by decide) ?_
              exact J98 _ _ _ _ _ _ _ hf hW (lv_sub hl [1, 2, 3, 0] rfl)
            · replace hf := (if_neg c21).symm.trans hf
              refine lv_tableOut (tgt := 96) hx hb dX11_rule_1 (by have := ne_toInt (z := 0) (by decide) c1; have := ne_toInt (z := 1) (by decide) c5; have := ne_toInt (z := 2) (by decide) c9; have := ne_toInt (z := 3) (by decide) c13; have := ne_toInt (z := 4) (by decide) c17; have := ne_toInt (z := 5) (by decide) c21; omega) (by decide) ?_
              refine lv_iconst (v := 0) hx hb dX11_rule_96 (by decide) ?_
              refine lv_istore_n (lv' := [(3, .int (0 : Int32)), (0, .ref (ad t i 0)), (1, .int a1), (2, .int a2)]) hx hb dX11_rule_97 rfl hl (by decide) rfl (fun ls hl => ?_)
              exact J98 _ _ _ _ _ _ _ hf hW (lv_sub hl [1, 2, 3, 0] rfl)
def f11_length (g : Sg) (a1 : Int32) : Option Int32 :=
  (rd 1805 (g 1) ((1390 : Int32) + a1) (fun v2 => (some v2)))
set_option maxHeartbeats 4000000 in
set_option maxRecDepth 100000 in
theorem f11_length_ok (l : Launch) (D : va_G) (cy : Nat → ClassId) (ad : Nat → Nat → Nat → Nat) (ns : List (Nat × Nat × Nat)) (M : Me) (t i : Nat) (hI : IsModel cy ad ns t i) (g : Sg) (a1 : Int32) (r : Int32)  (hf : f11_length g a1 = some r) : Ci l yX11_length (.code yX11_length cX11_length 2 (some .int) :: tk_tb) { frames := 0, cells := 0, slots := 0, locals := 0 } D cy ad ns [.ref (ad t i 0), .int a1] (uI M t i g) r (uI M t i g) := by
  refine Ci.of (by decide) (Nat.le_of_ble_eq_true rfl) ?_
  intro p e s m below meth c ls hE hW hl
  obtain ⟨hx, hb, hr, hml, hown, hts, hlk, hK⟩ := hE
  have hA : ∀ q : Nat, s.heap.size ≤ q → Aw ad ns s.heap.size q := fun q h => Or.inr h
  have hl : lv_has ls 2 [(0, .ref (ad t i 0)), (1, .int a1)] := hl
  unfold f11_length at hf
  refine lv_aload_n hx hb dX11_length_0 rfl (lv_at hl 0 rfl) ?_
  refine x_get hx hb hts hown hK hW (hI.2 0 (by decide)) uI_o (hI.1 0 _) rfl inX11 2 (by decide) t_742 rfl dX11_length_1 ?_
  refine lv_sipush (v := 1390) hx hb dX11_length_4 (by decide) ?_
  refine lv_iload_n hx hb dX11_length_7 rfl (lv_at hl 1 rfl) ?_
  refine lv_iadd hx hb dX11_length_8 ?_
  obtain ⟨hi1, hf⟩ := rd_some hf
  refine x_iald hx hb hK hW (hI.2 1 (by decide)) uI_o (hI.1 1 _) hi1 dX11_length_9 ?_
  generalize g 1 (((1390 : Int32) + a1)).toNatClampNeg = v2 at hf ⊢
  exact x_iret hx hb hr hlk hK hW (Option.some.inj hf) rfl dX11_length_10
def f11_keyAt (g : Sg) (a1 : Int32) (a2 : Int32) : Option Int32 :=
  (rd 1805 (g 1) (((1090 : Int32) + ((100 : Int32) * a1)) + a2) (fun v2 => (some v2)))
set_option maxHeartbeats 4000000 in
set_option maxRecDepth 100000 in
theorem f11_keyAt_ok (l : Launch) (D : va_G) (cy : Nat → ClassId) (ad : Nat → Nat → Nat → Nat) (ns : List (Nat × Nat × Nat)) (M : Me) (t i : Nat) (hI : IsModel cy ad ns t i) (g : Sg) (a1 : Int32) (a2 : Int32) (r : Int32)  (hf : f11_keyAt g a1 a2 = some r) : Ci l yX11_keyAt (.code yX11_keyAt cX11_keyAt 3 (some .int) :: tk_tb) { frames := 0, cells := 0, slots := 0, locals := 0 } D cy ad ns [.ref (ad t i 0), .int a1, .int a2] (uI M t i g) r (uI M t i g) := by
  refine Ci.of (by decide) (Nat.le_of_ble_eq_true rfl) ?_
  intro p e s m below meth c ls hE hW hl
  obtain ⟨hx, hb, hr, hml, hown, hts, hlk, hK⟩ := hE
  have hA : ∀ q : Nat, s.heap.size ≤ q → Aw ad ns s.heap.size q := fun q h => Or.inr h
  have hl : lv_has ls 3 [(0, .ref (ad t i 0)), (1, .int a1), (2, .int a2)] := hl
  unfold f11_keyAt at hf
  refine lv_aload_n hx hb dX11_keyAt_0 rfl (lv_at hl 0 rfl) ?_
  refine x_get hx hb hts hown hK hW (hI.2 0 (by decide)) uI_o (hI.1 0 _) rfl inX11 2 (by decide) t_742 rfl dX11_keyAt_1 ?_
  refine lv_sipush (v := 1090) hx hb dX11_keyAt_4 (by decide) ?_
  refine lv_bipush (v := 100) hx hb dX11_keyAt_7 (by decide) ?_
  refine lv_iload_n hx hb dX11_keyAt_9 rfl (lv_at hl 1 rfl) ?_
  refine lv_imul hx hb dX11_keyAt_10 ?_
  refine lv_iadd hx hb dX11_keyAt_11 ?_
  refine lv_iload_n hx hb dX11_keyAt_12 rfl (lv_at hl 2 rfl) ?_
  refine lv_iadd hx hb dX11_keyAt_13 ?_
  obtain ⟨hi1, hf⟩ := rd_some hf
  refine x_iald hx hb hK hW (hI.2 1 (by decide)) uI_o (hI.1 1 _) hi1 dX11_keyAt_14 ?_
  generalize g 1 ((((1090 : Int32) + ((100 : Int32) * a1)) + a2)).toNatClampNeg = v2 at hf ⊢
  exact x_iret hx hb hr hlk hK hW (Option.some.inj hf) rfl dX11_keyAt_15
def f11_indexOf_b2 (g : Sg) (rec2 : Int32 → Int32 → Int32 → Option Int32) (w1 : Int32) (w2 : Int32) (w3 : Int32) : Option Int32 :=
  ((f11_length g w1).bind (fun r2 => (if r2 ≤ w3 then (some (-1 : Int32)) else ((f11_keyAt g w1 w3).bind (fun r6 => (if r6 = w2 then (some w3) else (rec2 w1 w2 (w3 + (1 : Int32)))))))))
def f11_indexOf_l2 (g : Sg) : Nat → Int32 → Int32 → Int32 → Option Int32
  | 0 => fun _ _ _ => none
  | k + 1 => f11_indexOf_b2 g (f11_indexOf_l2 g k)
def f11_indexOf (g : Sg) (a1 : Int32) (a2 : Int32) : Option Int32 :=
  (f11_indexOf_l2 g NF a1 a2 (0 : Int32))
set_option maxHeartbeats 4000000 in
set_option maxRecDepth 100000 in
theorem f11_indexOf_ok (l : Launch) (D : va_G) (cy : Nat → ClassId) (ad : Nat → Nat → Nat → Nat) (ns : List (Nat × Nat × Nat)) (M : Me) (t i : Nat) (hI : IsModel cy ad ns t i) (g : Sg) (a1 : Int32) (a2 : Int32) (r : Int32)  (hf : f11_indexOf g a1 a2 = some r) : Ci l yX11_indexOf (.code yX11_indexOf cX11_indexOf 4 (some .int) :: tk_tb) { frames := 1, cells := 0, slots := 0, locals := 22 } D cy ad ns [.ref (ad t i 0), .int a1, .int a2] (uI M t i g) r (uI M t i g) := by
  refine Ci.of (by decide) (Nat.le_of_ble_eq_true rfl) ?_
  intro p e s m below meth c ls hE hW hl
  obtain ⟨hx, hb, hr, hml, hown, hts, hlk, hK⟩ := hE
  have hA : ∀ q : Nat, s.heap.size ≤ q → Aw ad ns s.heap.size q := fun q h => Or.inr h
  have hl : lv_has ls 4 [(0, .ref (ad t i 0)), (1, .int a1), (2, .int a2)] := hl
  unfold f11_indexOf at hf
  refine lv_iconst (v := 0) hx hb dX11_indexOf_0 (by decide) ?_
  refine lv_istore_n (lv' := [(3, .int (0 : Int32)), (0, .ref (ad t i 0)), (1, .int a1), (2, .int a2)]) hx hb dX11_indexOf_1 rfl hl (by decide) rfl (fun ls hl => ?_)
  have L2 : ∀ (k : Nat) (w1 : Int32) (w2 : Int32) (w3 : Int32) (H : Heap) (locs : List Loc) (ls : Array Slot), f11_indexOf_l2 g k w1 w2 w3 = some r → Wl D cy ad ns (Aw ad ns s.heap.size) s.heap (uI M t i g) H locs → lv_has ls 4 [(0, .ref (ad t i 0)), (1, .int w1), (2, .int w2), (3, .int w3)] → W p l e { frames := 1, cells := 0, slots := 0, locals := 22 } s m ([.ref (ad t i 0), .int a1, .int a2] : List Value).toArray below meth c H locs 0 0 (QI below D cy ad ns [.ref (ad t i 0), .int a1, .int a2] s r (uI M t i g)) (F0 m 2 ls []) := by
    intro k
    induction k with
    | zero => intro w1 w2 w3 H locs ls hf; exact absurd hf (by simp [f11_indexOf_l2])
    | succ k2 ih2 =>
      intro w1 w2 w3 H locs ls hf hW hl
      have hf : f11_indexOf_b2 g (f11_indexOf_l2 g k2) w1 w2 w3 = some r := hf
      unfold f11_indexOf_b2 at hf
      refine lv_iload_n hx hb dX11_indexOf_2 rfl (lv_at hl 3 rfl) ?_
      refine lv_aload_n hx hb dX11_indexOf_3 rfl (lv_at hl 0 rfl) ?_
      refine lv_iload_n hx hb dX11_indexOf_4 rfl (lv_at hl 1 rfl) ?_
      obtain ⟨r2, hc1, hf⟩ := bd_some hf
      have hC3 := f11_length_ok l D cy ad ns M t i hI g w1 r2 hc1
      refine x_vi (n := 1) (As := [.int w1]) (rest := [.int w3]) hx hb hml hts hown hK hW hA hC3 (hI.2 0 (by decide)) uI_o (hI.1 0 _) rfl rfl t_827 t_829 p_28 t_14 t_830 rfl (by decide +kernel) rfl rfl ⟨Nat.le_of_ble_eq_true rfl, Nat.le_of_ble_eq_true rfl⟩ hl.1 rfl (lv_room (Nat.le_of_ble_eq_true rfl)) dX11_indexOf_5 ⟨(Nat.le_of_ble_eq_true rfl), (Nat.le_of_ble_eq_true rfl)⟩ (fun H locs hW => ?_)
      refine lv_icmp_ge (tgt := 29) hx hb dX11_indexOf_8 (by decide) (fun c4 => ?_) (fun c4 => ?_)
      · replace hf := (if_pos c4).symm.trans hf
        refine lv_iconst (v := -1) hx hb dX11_indexOf_29 (by decide) ?_
        exact x_iret hx hb hr hlk hK hW (Option.some.inj hf) rfl dX11_indexOf_30
      · replace hf := (if_neg c4).symm.trans hf
        refine lv_aload_n hx hb dX11_indexOf_11 rfl (lv_at hl 0 rfl) ?_
        refine lv_iload_n hx hb dX11_indexOf_12 rfl (lv_at hl 1 rfl) ?_
        refine lv_iload_n hx hb dX11_indexOf_13 rfl (lv_at hl 3 rfl) ?_
        obtain ⟨r6, hc5, hf⟩ := bd_some hf
        have hC7 := f11_keyAt_ok l D cy ad ns M t i hI g w1 w3 r6 hc5
        refine x_vi (n := 2) (As := [.int w1, .int w3]) (rest := []) hx hb hml hts hown hK hW hA hC7 (hI.2 0 (by decide)) uI_o (hI.1 0 _) rfl rfl t_831 t_833 p_29 t_14 t_834 rfl (by decide +kernel) rfl rfl ⟨Nat.le_of_ble_eq_true rfl, Nat.le_of_ble_eq_true rfl⟩ hl.1 rfl (lv_room (Nat.le_of_ble_eq_true rfl)) dX11_indexOf_14 ⟨(Nat.le_of_ble_eq_true rfl), (Nat.le_of_ble_eq_true rfl)⟩ (fun H locs hW => ?_)
        refine lv_iload_n hx hb dX11_indexOf_17 rfl (lv_at hl 2 rfl) ?_
        refine lv_icmp_ne (tgt := 23) hx hb dX11_indexOf_18 (by decide) (fun c8 => ?_) (fun c8 => ?_)
        · replace hf := (if_neg c8).symm.trans hf
          refine lv_iinc (v := (w3 + (1 : Int32))) (lv' := [(3, .int (w3 + (1 : Int32))), (0, .ref (ad t i 0)), (1, .int w1), (2, .int w2)]) hx hb dX11_indexOf_23 hl (k := 3) rfl (by first | rfl | decide) (by decide) rfl (fun ls hl => ?_)
          refine lv_goto (tgt := 2) hx hb dX11_indexOf_26 (by decide) ?_
          exact ih2 _ _ _ _ _ _ hf hW (lv_sub hl [1, 2, 3, 0] rfl)
        · replace hf := (if_pos c8).symm.trans hf
          refine lv_iload_n hx hb dX11_indexOf_21 rfl (lv_at hl 3 rfl) ?_
          exact x_iret hx hb hr hlk hK hW (Option.some.inj hf) rfl dX11_indexOf_22
  exact L2 NF _ _ _ _ _ _ hf hW (lv_sub hl [1, 2, 3, 0] rfl)
def f11_partOf_b2 (g : Sg) (rec2 : Int32 → Int32 → Option Int32) (w1 : Int32) (w2 : Int32) : Option Int32 :=
  (if (3 : Int32) ≤ w2 then (some (-1 : Int32)) else ((f11_indexOf g w2 w1).bind (fun r3 => (if r3 < 0 then (rec2 w1 (w2 + (1 : Int32))) else (some w2)))))
def f11_partOf_l2 (g : Sg) : Nat → Int32 → Int32 → Option Int32
  | 0 => fun _ _ => none
  | k + 1 => f11_partOf_b2 g (f11_partOf_l2 g k)
def f11_partOf (g : Sg) (a1 : Int32) : Option Int32 :=
  (f11_partOf_l2 g NF a1 (0 : Int32))
set_option maxHeartbeats 4000000 in
set_option maxRecDepth 100000 in
theorem f11_partOf_ok (l : Launch) (D : va_G) (cy : Nat → ClassId) (ad : Nat → Nat → Nat → Nat) (ns : List (Nat × Nat × Nat)) (M : Me) (t i : Nat) (hI : IsModel cy ad ns t i) (g : Sg) (a1 : Int32) (r : Int32)  (hf : f11_partOf g a1 = some r) : Ci l yX11_partOf (.code yX11_partOf cX11_partOf 3 (some .int) :: tk_tb) { frames := 2, cells := 0, slots := 0, locals := 45 } D cy ad ns [.ref (ad t i 0), .int a1] (uI M t i g) r (uI M t i g) := by
  refine Ci.of (by decide) (Nat.le_of_ble_eq_true rfl) ?_
  intro p e s m below meth c ls hE hW hl
  obtain ⟨hx, hb, hr, hml, hown, hts, hlk, hK⟩ := hE
  have hA : ∀ q : Nat, s.heap.size ≤ q → Aw ad ns s.heap.size q := fun q h => Or.inr h
  have hl : lv_has ls 3 [(0, .ref (ad t i 0)), (1, .int a1)] := hl
  unfold f11_partOf at hf
  refine lv_iconst (v := 0) hx hb dX11_partOf_0 (by decide) ?_
  refine lv_istore_n (lv' := [(2, .int (0 : Int32)), (0, .ref (ad t i 0)), (1, .int a1)]) hx hb dX11_partOf_1 rfl hl (by decide) rfl (fun ls hl => ?_)
  have L2 : ∀ (k : Nat) (w1 : Int32) (w2 : Int32) (H : Heap) (locs : List Loc) (ls : Array Slot), f11_partOf_l2 g k w1 w2 = some r → Wl D cy ad ns (Aw ad ns s.heap.size) s.heap (uI M t i g) H locs → lv_has ls 3 [(0, .ref (ad t i 0)), (1, .int w1), (2, .int w2)] → W p l e { frames := 2, cells := 0, slots := 0, locals := 45 } s m ([.ref (ad t i 0), .int a1] : List Value).toArray below meth c H locs 0 0 (QI below D cy ad ns [.ref (ad t i 0), .int a1] s r (uI M t i g)) (F0 m 2 ls []) := by
    intro k
    induction k with
    | zero => intro w1 w2 H locs ls hf; exact absurd hf (by simp [f11_partOf_l2])
    | succ k2 ih2 =>
      intro w1 w2 H locs ls hf hW hl
      have hf : f11_partOf_b2 g (f11_partOf_l2 g k2) w1 w2 = some r := hf
      unfold f11_partOf_b2 at hf
      refine lv_iload_n hx hb dX11_partOf_2 rfl (lv_at hl 2 rfl) ?_
      refine lv_iconst (v := 3) hx hb dX11_partOf_3 (by decide) ?_
      refine lv_icmp_ge (tgt := 24) hx hb dX11_partOf_4 (by decide) (fun c1 => ?_) (fun c1 => ?_)
      · replace hf := (if_pos c1).symm.trans hf
        refine lv_iconst (v := -1) hx hb dX11_partOf_24 (by decide) ?_
        exact x_iret hx hb hr hlk hK hW (Option.some.inj hf) rfl dX11_partOf_25
      · replace hf := (if_neg c1).symm.trans hf
        refine lv_aload_n hx hb dX11_partOf_7 rfl (lv_at hl 0 rfl) ?_
        refine lv_iload_n hx hb dX11_partOf_8 rfl (lv_at hl 2 rfl) ?_
        refine lv_iload_n hx hb dX11_partOf_9 rfl (lv_at hl 1 rfl) ?_
        obtain ⟨r3, hc2, hf⟩ := bd_some hf
        have hC4 := f11_indexOf_ok l D cy ad ns M t i hI g w2 w1 r3 hc2
        refine x_vi (n := 2) (As := [.int w2, .int w1]) (rest := []) hx hb hml hts hown hK hW hA hC4 (hI.2 0 (by decide)) uI_o (hI.1 0 _) rfl rfl t_823 t_825 p_27 t_14 t_826 rfl (by decide +kernel) rfl rfl ⟨Nat.le_of_ble_eq_true rfl, Nat.le_of_ble_eq_true rfl⟩ hl.1 rfl (lv_room (Nat.le_of_ble_eq_true rfl)) dX11_partOf_10 ⟨(Nat.le_of_ble_eq_true rfl), (Nat.le_of_ble_eq_true rfl)⟩ (fun H locs hW => ?_)
        refine lv_if_lt (tgt := 18) hx hb dX11_partOf_13 (by decide) (fun c5 => ?_) (fun c5 => ?_)
        · replace hf := (if_pos c5).symm.trans hf
          refine lv_iinc (v := (w2 + (1 : Int32))) (lv' := [(2, .int (w2 + (1 : Int32))), (0, .ref (ad t i 0)), (1, .int w1)]) hx hb dX11_partOf_18 hl (k := 2) rfl (by first | rfl | decide) (by decide) rfl (fun ls hl => ?_)
          refine lv_goto (tgt := 2) hx hb dX11_partOf_21 (by decide) ?_
          exact ih2 _ _ _ _ _ hf hW (lv_sub hl [1, 2, 0] rfl)
        · replace hf := (if_neg c5).symm.trans hf
          refine lv_iload_n hx hb dX11_partOf_16 rfl (lv_at hl 2 rfl) ?_
          exact x_iret hx hb hr hlk hK hW (Option.some.inj hf) rfl dX11_partOf_17
  exact L2 NF _ _ _ _ _ hf hW (lv_sub hl [1, 2, 0] rfl)
def f11_size (a1 : Int32) (a2 : Int32) (g : Sg) : Option (Int32 × Sg) :=
  ((f11_isKey a1).bind (fun r2 => (if r2 = 0 then (some ((-2 : Int32), g)) else ((f11_in a2 (1 : Int32) (20 : Int32)).bind (fun r6 => (if r6 = 0 then (some ((-2 : Int32), g)) else ((f11_partOf g a1).bind (fun r10 => (if r10 < 0 then (rd 1805 (g 1) ((990 : Int32) + a1) (fun v14 => (wr 1805 ((990 : Int32) + a1) (va_up g 1 (upd (g 1) (((990 : Int32) + a1)).toNatClampNeg a2)) (fun g16 => (some (v14, g16)))))) else (some ((-3 : Int32), g)))))))))))
set_option maxHeartbeats 4000000 in
set_option maxRecDepth 100000 in
theorem f11_size_ok (l : Launch) (D : va_G) (cy : Nat → ClassId) (ad : Nat → Nat → Nat → Nat) (ns : List (Nat × Nat × Nat)) (M : Me) (t i : Nat) (hI : IsModel cy ad ns t i) (g : Sg) (a1 : Int32) (a2 : Int32) (r : Int32) (m2 : Sg)  (hf : f11_size a1 a2 g = some (r, m2)) : Ci l yX11_size (.code yX11_size cX11_size 4 (some .int) :: tk_tb) { frames := 3, cells := 0, slots := 0, locals := 67 } D cy ad ns [.ref (ad t i 0), .int a1, .int a2] (uI M t i g) r (uI M t i m2) := by
  refine Ci.of (by decide) (Nat.le_of_ble_eq_true rfl) ?_
  intro p e s m below meth c ls hE hW hl
  obtain ⟨hx, hb, hr, hml, hown, hts, hlk, hK⟩ := hE
  have hA : ∀ q : Nat, s.heap.size ≤ q → Aw ad ns s.heap.size q := fun q h => Or.inr h
  have hl : lv_has ls 4 [(0, .ref (ad t i 0)), (1, .int a1), (2, .int a2)] := hl
  unfold f11_size at hf
  refine lv_iload_n hx hb dX11_size_0 rfl (lv_at hl 1 rfl) ?_
  obtain ⟨r2, hc1, hf⟩ := bd_some hf
  have hC3 := f11_isKey_ok l D cy ad ns (uI M t i g) a1 r2 hc1
  refine x_si (n := 1) (As := [.int a1]) (rest := []) hx hb hml hts hown hK hW hA hC3 t_800 t_801 t_14 t_802 rfl (by decide +kernel) rfl rfl ⟨Nat.le_of_ble_eq_true rfl, Nat.le_of_ble_eq_true rfl⟩ hl.1 rfl (lv_room (Nat.le_of_ble_eq_true rfl)) dX11_size_1 ⟨(Nat.le_of_ble_eq_true rfl), (Nat.le_of_ble_eq_true rfl)⟩ (fun H locs hW => ?_)
  refine lv_if_eq (tgt := 17) hx hb dX11_size_4 (by decide) (fun c4 => ?_) (fun c4 => ?_)
  · replace hf := (if_pos c4).symm.trans hf
    refine lv_bipush (v := -2) hx hb dX11_size_17 (by decide) ?_
    exact x_iret hx hb hr hlk hK hW (congrArg Prod.fst (Option.some.inj hf)) (congrArg (fun q => (uI M t i (Prod.snd q))) (Option.some.inj hf)) dX11_size_19
  · replace hf := (if_neg c4).symm.trans hf
    refine lv_iload_n hx hb dX11_size_7 rfl (lv_at hl 2 rfl) ?_
    refine lv_iconst (v := 1) hx hb dX11_size_8 (by decide) ?_
    refine lv_bipush (v := 20) hx hb dX11_size_9 (by decide) ?_
    obtain ⟨r6, hc5, hf⟩ := bd_some hf
    have hC7 := f11_in_ok l D cy ad ns (uI M t i g) a2 (1 : Int32) (20 : Int32) r6 hc5
    refine x_si (n := 3) (As := [.int a2, .int (1 : Int32), .int (20 : Int32)]) (rest := []) hx hb hml hts hown hK hW hA hC7 t_797 t_798 t_14 t_799 rfl (by decide +kernel) rfl rfl ⟨Nat.le_of_ble_eq_true rfl, Nat.le_of_ble_eq_true rfl⟩ hl.1 rfl (lv_room (Nat.le_of_ble_eq_true rfl)) dX11_size_11 ⟨(Nat.le_of_ble_eq_true rfl), (Nat.le_of_ble_eq_true rfl)⟩ (fun H locs hW => ?_)
    refine lv_if_ne (tgt := 20) hx hb dX11_size_14 (by decide) (fun c8 => ?_) (fun c8 => ?_)
    · replace hf := (if_neg c8).symm.trans hf
      refine lv_aload_n hx hb dX11_size_20 rfl (lv_at hl 0 rfl) ?_
      refine lv_iload_n hx hb dX11_size_21 rfl (lv_at hl 1 rfl) ?_
      obtain ⟨r10, hc9, hf⟩ := bd_some hf
      have hC11 := f11_partOf_ok l D cy ad ns M t i hI g a1 r10 hc9
      refine x_vi (n := 1) (As := [.int a1]) (rest := []) hx hb hml hts hown hK hW hA hC11 (hI.2 0 (by decide)) uI_o (hI.1 0 _) rfl rfl t_819 t_821 p_26 t_14 t_822 rfl (by decide +kernel) rfl rfl ⟨Nat.le_of_ble_eq_true rfl, Nat.le_of_ble_eq_true rfl⟩ hl.1 rfl (lv_room (Nat.le_of_ble_eq_true rfl)) dX11_size_22 ⟨(Nat.le_of_ble_eq_true rfl), (Nat.le_of_ble_eq_true rfl)⟩ (fun H locs hW => ?_)
      refine lv_if_lt (tgt := 31) hx hb dX11_size_25 (by decide) (fun c12 => ?_) (fun c12 => ?_)
      · replace hf := (if_pos c12).symm.trans hf
        refine lv_aload_n hx hb dX11_size_31 rfl (lv_at hl 0 rfl) ?_
        refine x_get hx hb hts hown hK hW (hI.2 0 (by decide)) uI_o (hI.1 0 _) rfl inX11 2 (by decide) t_742 rfl dX11_size_32 ?_
        refine lv_sipush (v := 990) hx hb dX11_size_35 (by decide) ?_
        refine lv_iload_n hx hb dX11_size_38 rfl (lv_at hl 1 rfl) ?_
        refine lv_iadd hx hb dX11_size_39 ?_
        obtain ⟨hi13, hf⟩ := rd_some hf
        refine x_iald hx hb hK hW (hI.2 1 (by decide)) uI_o (hI.1 1 _) hi13 dX11_size_40 ?_
        generalize g 1 (((990 : Int32) + a1)).toNatClampNeg = v14 at hf ⊢
        refine lv_istore_n (lv' := [(3, .int v14), (0, .ref (ad t i 0)), (1, .int a1), (2, .int a2)]) hx hb dX11_size_41 rfl hl (by decide) rfl (fun ls hl => ?_)
        refine lv_aload_n hx hb dX11_size_42 rfl (lv_at hl 1 rfl) ?_
        refine x_get hx hb hts hown hK hW (hI.2 0 (by decide)) uI_o (hI.1 0 _) rfl inX11 2 (by decide) t_742 rfl dX11_size_43 ?_
        refine lv_sipush (v := 990) hx hb dX11_size_46 (by decide) ?_
        refine lv_iload_n hx hb dX11_size_49 rfl (lv_at hl 2 rfl) ?_
        refine lv_iadd hx hb dX11_size_50 ?_
        refine lv_iload_n hx hb dX11_size_51 rfl (lv_at hl 3 rfl) ?_
        obtain ⟨hi15, hf⟩ := wr_some hf
        refine x_iast hx hb hK hW (hI.2 1 (by decide)) uI_o (fun _ => (hI.1 1 _)) hi15 uC_leaf dX11_size_52 (fun H locs hW => ?_)
        generalize (va_up g 1 (upd (g 1) (((990 : Int32) + a1)).toNatClampNeg a2)) = g16 at hf hW
        refine lv_iload_n hx hb dX11_size_53 rfl (lv_at hl 0 rfl) ?_
        exact x_iret hx hb hr hlk hK hW (congrArg Prod.fst (Option.some.inj hf)) (congrArg (fun q => (uI M t i (Prod.snd q))) (Option.some.inj hf)) dX11_size_54
      · replace hf := (if_neg c12).symm.trans hf
        refine lv_bipush (v := -3) hx hb dX11_size_28 (by decide) ?_
        exact x_iret hx hb hr hlk hK hW (congrArg Prod.fst (Option.some.inj hf)) (congrArg (fun q => (uI M t i (Prod.snd q))) (Option.some.inj hf)) dX11_size_30
    · replace hf := (if_pos c8).symm.trans hf
      refine lv_bipush (v := -2) hx hb dX11_size_17 (by decide) ?_
      exact x_iret hx hb hr hlk hK hW (congrArg Prod.fst (Option.some.inj hf)) (congrArg (fun q => (uI M t i (Prod.snd q))) (Option.some.inj hf)) dX11_size_19
def f11_cell (g : Sg) (a1 : Int32) (a2 : Int32) : Option Int32 :=
  (rd 1805 (g 1) (((0 : Int32) + ((100 : Int32) * a1)) + a2) (fun v2 => (some (((606 : Int32) + ((64 : Int32) * a1)) + v2))))
set_option maxHeartbeats 4000000 in
set_option maxRecDepth 100000 in
theorem f11_cell_ok (l : Launch) (D : va_G) (cy : Nat → ClassId) (ad : Nat → Nat → Nat → Nat) (ns : List (Nat × Nat × Nat)) (M : Me) (t i : Nat) (hI : IsModel cy ad ns t i) (g : Sg) (a1 : Int32) (a2 : Int32) (r : Int32)  (hf : f11_cell g a1 a2 = some r) : Ci l yX11_cell (.code yX11_cell cX11_cell 3 (some .int) :: tk_tb) { frames := 0, cells := 0, slots := 0, locals := 0 } D cy ad ns [.ref (ad t i 0), .int a1, .int a2] (uI M t i g) r (uI M t i g) := by
  refine Ci.of (by decide) (Nat.le_of_ble_eq_true rfl) ?_
  intro p e s m below meth c ls hE hW hl
  obtain ⟨hx, hb, hr, hml, hown, hts, hlk, hK⟩ := hE
  have hA : ∀ q : Nat, s.heap.size ≤ q → Aw ad ns s.heap.size q := fun q h => Or.inr h
  have hl : lv_has ls 3 [(0, .ref (ad t i 0)), (1, .int a1), (2, .int a2)] := hl
  unfold f11_cell at hf
  refine lv_sipush (v := 606) hx hb dX11_cell_0 (by decide) ?_
  refine lv_bipush (v := 64) hx hb dX11_cell_3 (by decide) ?_
  refine lv_iload_n hx hb dX11_cell_5 rfl (lv_at hl 1 rfl) ?_
  refine lv_imul hx hb dX11_cell_6 ?_
  refine lv_iadd hx hb dX11_cell_7 ?_
  refine lv_aload_n hx hb dX11_cell_8 rfl (lv_at hl 0 rfl) ?_
  refine x_get hx hb hts hown hK hW (hI.2 0 (by decide)) uI_o (hI.1 0 _) rfl inX11 2 (by decide) t_742 rfl dX11_cell_9 ?_
  refine lv_iconst (v := 0) hx hb dX11_cell_12 (by decide) ?_
  refine lv_bipush (v := 100) hx hb dX11_cell_13 (by decide) ?_
  refine lv_iload_n hx hb dX11_cell_15 rfl (lv_at hl 1 rfl) ?_
  refine lv_imul hx hb dX11_cell_16 ?_
  refine lv_iadd hx hb dX11_cell_17 ?_
  refine lv_iload_n hx hb dX11_cell_18 rfl (lv_at hl 2 rfl) ?_
  refine lv_iadd hx hb dX11_cell_19 ?_
  obtain ⟨hi1, hf⟩ := rd_some hf
  refine x_iald hx hb hK hW (hI.2 1 (by decide)) uI_o (hI.1 1 _) hi1 dX11_cell_20 ?_
  generalize g 1 ((((0 : Int32) + ((100 : Int32) * a1)) + a2)).toNatClampNeg = v2 at hf ⊢
  refine lv_iadd hx hb dX11_cell_21 ?_
  exact x_iret hx hb hr hlk hK hW (Option.some.inj hf) rfl dX11_cell_22
def f11_isThrough (g : Sg) (a1 : Int32) : Option Int32 :=
  (rd 1805 (g 1) ((400 : Int32) + a1) (fun v2 => (rd 1805 (g 1) ((862 : Int32) + v2) (fun v4 => (if v4 = (1 : Int32) then (rd 1805 (g 1) ((500 : Int32) + a1) (fun v7 => (rd 1805 (g 1) ((862 : Int32) + v7) (fun v9 => (if v9 = (1 : Int32) then (some (1 : Int32)) else (some (0 : Int32))))))) else (some (0 : Int32)))))))
set_option maxHeartbeats 4000000 in
set_option maxRecDepth 100000 in
theorem f11_isThrough_ok (l : Launch) (D : va_G) (cy : Nat → ClassId) (ad : Nat → Nat → Nat → Nat) (ns : List (Nat × Nat × Nat)) (M : Me) (t i : Nat) (hI : IsModel cy ad ns t i) (g : Sg) (a1 : Int32) (r : Int32)  (hf : f11_isThrough g a1 = some r) : Ci l yX11_isThrough (.code yX11_isThrough cX11_isThrough 2 (some .boolean) :: tk_tb) { frames := 0, cells := 0, slots := 0, locals := 0 } D cy ad ns [.ref (ad t i 0), .int a1] (uI M t i g) r (uI M t i g) := by
  refine Ci.of (by decide) (Nat.le_of_ble_eq_true rfl) ?_
  intro p e s m below meth c ls hE hW hl
  obtain ⟨hx, hb, hr, hml, hown, hts, hlk, hK⟩ := hE
  have hA : ∀ q : Nat, s.heap.size ≤ q → Aw ad ns s.heap.size q := fun q h => Or.inr h
  have hl : lv_has ls 2 [(0, .ref (ad t i 0)), (1, .int a1)] := hl
  unfold f11_isThrough at hf
  refine lv_aload_n hx hb dX11_isThrough_0 rfl (lv_at hl 0 rfl) ?_
  refine x_get hx hb hts hown hK hW (hI.2 0 (by decide)) uI_o (hI.1 0 _) rfl inX11 2 (by decide) t_742 rfl dX11_isThrough_1 ?_
  refine lv_sipush (v := 862) hx hb dX11_isThrough_4 (by decide) ?_
  refine lv_aload_n hx hb dX11_isThrough_7 rfl (lv_at hl 0 rfl) ?_
  refine x_get hx hb hts hown hK hW (hI.2 0 (by decide)) uI_o (hI.1 0 _) rfl inX11 2 (by decide) t_742 rfl dX11_isThrough_8 ?_
  refine lv_sipush (v := 400) hx hb dX11_isThrough_11 (by decide) ?_
  refine lv_iload_n hx hb dX11_isThrough_14 rfl (lv_at hl 1 rfl) ?_
  refine lv_iadd hx hb dX11_isThrough_15 ?_
  obtain ⟨hi1, hf⟩ := rd_some hf
  refine x_iald hx hb hK hW (hI.2 1 (by decide)) uI_o (hI.1 1 _) hi1 dX11_isThrough_16 ?_
  generalize g 1 (((400 : Int32) + a1)).toNatClampNeg = v2 at hf ⊢
  refine lv_iadd hx hb dX11_isThrough_17 ?_
  obtain ⟨hi3, hf⟩ := rd_some hf
  refine x_iald hx hb hK hW (hI.2 1 (by decide)) uI_o (hI.1 1 _) hi3 dX11_isThrough_18 ?_
  generalize g 1 (((862 : Int32) + v2)).toNatClampNeg = v4 at hf ⊢
  refine lv_iconst (v := 1) hx hb dX11_isThrough_19 (by decide) ?_
  refine lv_icmp_ne (tgt := 50) hx hb dX11_isThrough_20 (by decide) (fun c5 => ?_) (fun c5 => ?_)
  · replace hf := (if_neg c5).symm.trans hf
    refine lv_iconst (v := 0) hx hb dX11_isThrough_50 (by decide) ?_
    exact x_zret hx hb hr hlk (by first | decide | rfl) hK hW (Option.some.inj hf) rfl dX11_isThrough_51
  · replace hf := (if_pos c5).symm.trans hf
    refine lv_aload_n hx hb dX11_isThrough_23 rfl (lv_at hl 0 rfl) ?_
    refine x_get hx hb hts hown hK hW (hI.2 0 (by decide)) uI_o (hI.1 0 _) rfl inX11 2 (by decide) t_742 rfl dX11_isThrough_24 ?_
    refine lv_sipush (v := 862) hx hb dX11_isThrough_27 (by decide) ?_
    refine lv_aload_n hx hb dX11_isThrough_30 rfl (lv_at hl 0 rfl) ?_
    refine x_get hx hb hts hown hK hW (hI.2 0 (by decide)) uI_o (hI.1 0 _) rfl inX11 2 (by decide) t_742 rfl dX11_isThrough_31 ?_
    refine lv_sipush (v := 500) hx hb dX11_isThrough_34 (by decide) ?_
    refine lv_iload_n hx hb dX11_isThrough_37 rfl (lv_at hl 1 rfl) ?_
    refine lv_iadd hx hb dX11_isThrough_38 ?_
    obtain ⟨hi6, hf⟩ := rd_some hf
    refine x_iald hx hb hK hW (hI.2 1 (by decide)) uI_o (hI.1 1 _) hi6 dX11_isThrough_39 ?_
    generalize g 1 (((500 : Int32) + a1)).toNatClampNeg = v7 at hf ⊢
    refine lv_iadd hx hb dX11_isThrough_40 ?_
    obtain ⟨hi8, hf⟩ := rd_some hf
    refine x_iald hx hb hK hW (hI.2 1 (by decide)) uI_o (hI.1 1 _) hi8 dX11_isThrough_41 ?_
    generalize g 1 (((862 : Int32) + v7)).toNatClampNeg = v9 at hf ⊢
    refine lv_iconst (v := 1) hx hb dX11_isThrough_42 (by decide) ?_
    refine lv_icmp_ne (tgt := 50) hx hb dX11_isThrough_43 (by decide) (fun c10 => ?_) (fun c10 => ?_)
    · replace hf := (if_neg c10).symm.trans hf
      refine lv_iconst (v := 0) hx hb dX11_isThrough_50 (by decide) ?_
      exact x_zret hx hb hr hlk (by first | decide | rfl) hK hW (Option.some.inj hf) rfl dX11_isThrough_51
    · replace hf := (if_pos c10).symm.trans hf
      refine lv_iconst (v := 1) hx hb dX11_isThrough_46 (by decide) ?_
      refine lv_goto (tgt := 51) hx hb dX11_isThrough_47 (by decide) ?_
      exact x_zret hx hb hr hlk (by first | decide | rfl) hK hW (Option.some.inj hf) rfl dX11_isThrough_51
def f11_smallest_b5 (g : Sg) (rec5 : Int32 → Int32 → Int32 → Option Int32) (w1 : Int32) (w2 : Int32) (w3 : Int32) : Option Int32 :=
  (if (g 0 0) ≤ w3 then (some w2) else ((f11_cell g w3 w1).bind (fun r3 => (rd 1805 (g 1) r3 (fun v6 => (if w2 ≤ v6 then (rec5 w1 w2 (w3 + (1 : Int32))) else ((f11_cell g w3 w1).bind (fun r9 => (rd 1805 (g 1) r9 (fun v12 => (rec5 w1 v12 (w3 + (1 : Int32)))))))))))))
def f11_smallest_l5 (g : Sg) : Nat → Int32 → Int32 → Int32 → Option Int32
  | 0 => fun _ _ _ => none
  | k + 1 => f11_smallest_b5 g (f11_smallest_l5 g k)
def f11_smallest (g : Sg) (a1 : Int32) : Option Int32 :=
  (f11_smallest_l5 g NF a1 (99 : Int32) (0 : Int32))
set_option maxHeartbeats 4000000 in
set_option maxRecDepth 100000 in
theorem f11_smallest_ok (l : Launch) (D : va_G) (cy : Nat → ClassId) (ad : Nat → Nat → Nat → Nat) (ns : List (Nat × Nat × Nat)) (M : Me) (t i : Nat) (hI : IsModel cy ad ns t i) (g : Sg) (a1 : Int32) (r : Int32)  (hf : f11_smallest g a1 = some r) : Ci l yX11_smallest (.code yX11_smallest cX11_smallest 4 (some .int) :: tk_tb) { frames := 1, cells := 0, slots := 0, locals := 22 } D cy ad ns [.ref (ad t i 0), .int a1] (uI M t i g) r (uI M t i g) := by
  refine Ci.of (by decide) (Nat.le_of_ble_eq_true rfl) ?_
  intro p e s m below meth c ls hE hW hl
  obtain ⟨hx, hb, hr, hml, hown, hts, hlk, hK⟩ := hE
  have hA : ∀ q : Nat, s.heap.size ≤ q → Aw ad ns s.heap.size q := fun q h => Or.inr h
  have hl : lv_has ls 4 [(0, .ref (ad t i 0)), (1, .int a1)] := hl
  unfold f11_smallest at hf
  refine lv_bipush (v := 99) hx hb dX11_smallest_0 (by decide) ?_
  refine lv_istore_n (lv' := [(2, .int (99 : Int32)), (0, .ref (ad t i 0)), (1, .int a1)]) hx hb dX11_smallest_2 rfl hl (by decide) rfl (fun ls hl => ?_)
  refine lv_iconst (v := 0) hx hb dX11_smallest_3 (by decide) ?_
  refine lv_istore_n (lv' := [(3, .int (0 : Int32)), (2, .int (99 : Int32)), (0, .ref (ad t i 0)), (1, .int a1)]) hx hb dX11_smallest_4 rfl hl (by decide) rfl (fun ls hl => ?_)
  have L5 : ∀ (k : Nat) (w1 : Int32) (w2 : Int32) (w3 : Int32) (H : Heap) (locs : List Loc) (ls : Array Slot), f11_smallest_l5 g k w1 w2 w3 = some r → Wl D cy ad ns (Aw ad ns s.heap.size) s.heap (uI M t i g) H locs → lv_has ls 4 [(0, .ref (ad t i 0)), (1, .int w1), (2, .int w2), (3, .int w3)] → W p l e { frames := 1, cells := 0, slots := 0, locals := 22 } s m ([.ref (ad t i 0), .int a1] : List Value).toArray below meth c H locs 0 0 (QI below D cy ad ns [.ref (ad t i 0), .int a1] s r (uI M t i g)) (F0 m 5 ls []) := by
    intro k
    induction k with
    | zero => intro w1 w2 w3 H locs ls hf; exact absurd hf (by simp [f11_smallest_l5])
    | succ k5 ih5 =>
      intro w1 w2 w3 H locs ls hf hW hl
      have hf : f11_smallest_b5 g (f11_smallest_l5 g k5) w1 w2 w3 = some r := hf
      unfold f11_smallest_b5 at hf
      refine lv_iload_n hx hb dX11_smallest_5 rfl (lv_at hl 3 rfl) ?_
      refine lv_aload_n hx hb dX11_smallest_6 rfl (lv_at hl 0 rfl) ?_
      refine x_get hx hb hts hown hK hW (hI.2 0 (by decide)) uI_o (hI.1 0 _) rfl inX11 0 (by decide) t_740 rfl dX11_smallest_7 ?_
      refine lv_icmp_ge (tgt := 50) hx hb dX11_smallest_10 (by decide) (fun c1 => ?_) (fun c1 => ?_)
      · replace hf := (if_pos c1).symm.trans hf
        refine lv_iload_n hx hb dX11_smallest_50 rfl (lv_at hl 2 rfl) ?_
        exact x_iret hx hb hr hlk hK hW (Option.some.inj hf) rfl dX11_smallest_51
      · replace hf := (if_neg c1).symm.trans hf
        refine lv_aload_n hx hb dX11_smallest_13 rfl (lv_at hl 0 rfl) ?_
        refine x_get hx hb hts hown hK hW (hI.2 0 (by decide)) uI_o (hI.1 0 _) rfl inX11 2 (by decide) t_742 rfl dX11_smallest_14 ?_
        refine lv_aload_n hx hb dX11_smallest_17 rfl (lv_at hl 0 rfl) ?_
        refine lv_iload_n hx hb dX11_smallest_18 rfl (lv_at hl 3 rfl) ?_
        refine lv_iload_n hx hb dX11_smallest_19 rfl (lv_at hl 1 rfl) ?_
        obtain ⟨r3, hc2, hf⟩ := bd_some hf
        have hC4 := f11_cell_ok l D cy ad ns M t i hI g w3 w1 r3 hc2
        refine x_vi (n := 2) (As := [.int w3, .int w1]) (rest := [.ref (ad t i 1)]) hx hb hml hts hown hK hW hA hC4 (hI.2 0 (by decide)) uI_o (hI.1 0 _) rfl rfl t_855 t_857 p_34 t_14 t_858 rfl (by decide +kernel) rfl rfl ⟨Nat.le_of_ble_eq_true rfl, Nat.le_of_ble_eq_true rfl⟩ hl.1 rfl (lv_room (Nat.le_of_ble_eq_true rfl)) dX11_smallest_20 ⟨(Nat.le_of_ble_eq_true rfl), (Nat.le_of_ble_eq_true rfl)⟩ (fun H locs hW => ?_)
        obtain ⟨hi5, hf⟩ := rd_some hf
        refine x_iald hx hb hK hW (hI.2 1 (by decide)) uI_o (hI.1 1 _) hi5 dX11_smallest_23 ?_
        generalize g 1 (r3).toNatClampNeg = v6 at hf ⊢
        refine lv_iload_n hx hb dX11_smallest_24 rfl (lv_at hl 2 rfl) ?_
        refine lv_icmp_ge (tgt := 42) hx hb dX11_smallest_25 (by decide) (fun c7 => ?_) (fun c7 => ?_)
        · replace hf := (if_pos c7).symm.trans hf
          refine lv_iload_n hx hb dX11_smallest_42 rfl (lv_at hl 2 rfl) ?_
          refine lv_istore_n (lv' := [(2, .int w2), (0, .ref (ad t i 0)), (1, .int w1), (3, .int w3)]) hx hb dX11_smallest_43 rfl hl (by decide) rfl (fun ls hl => ?_)
          refine lv_iinc (v := (w3 + (1 : Int32))) (lv' := [(3, .int (w3 + (1 : Int32))), (2, .int w2), (0, .ref (ad t i 0)), (1, .int w1)]) hx hb dX11_smallest_44 hl (k := 3) rfl (by first | rfl | decide) (by decide) rfl (fun ls hl => ?_)
          refine lv_goto (tgt := 5) hx hb dX11_smallest_47 (by decide) ?_
          exact ih5 _ _ _ _ _ _ hf hW (lv_sub hl [2, 3, 1, 0] rfl)
        · replace hf := (if_neg c7).symm.trans hf
          refine lv_aload_n hx hb dX11_smallest_28 rfl (lv_at hl 0 rfl) ?_
          refine x_get hx hb hts hown hK hW (hI.2 0 (by decide)) uI_o (hI.1 0 _) rfl inX11 2 (by decide) t_742 rfl dX11_smallest_29 ?_
          refine lv_aload_n hx hb dX11_smallest_32 rfl (lv_at hl 0 rfl) ?_
          refine lv_iload_n hx hb dX11_smallest_33 rfl (lv_at hl 3 rfl) ?_
          refine lv_iload_n hx hb dX11_smallest_34 rfl (lv_at hl 1 rfl) ?_
          obtain ⟨r9, hc8, hf⟩ := bd_some hf
          have hC10 := f11_cell_ok l D cy ad ns M t i hI g w3 w1 r9 hc8
          refine x_vi (n := 2) (As := [.int w3, .int w1]) (rest := [.ref (ad t i 1)]) hx hb hml hts hown hK hW hA hC10 (hI.2 0 (by decide)) uI_o (hI.1 0 _) rfl rfl t_855 t_857 p_34 t_14 t_858 rfl (by decide +kernel) rfl rfl ⟨Nat.le_of_ble_eq_true rfl, Nat.le_of_ble_eq_true rfl⟩ hl.1 rfl (lv_room (Nat.le_of_ble_eq_true rfl)) dX11_smallest_35 ⟨(Nat.le_of_ble_eq_true rfl), (Nat.le_of_ble_eq_true rfl)⟩ (fun H locs hW => ?_)
          obtain ⟨hi11, hf⟩ := rd_some hf
          refine x_iald hx hb hK hW (hI.2 1 (by decide)) uI_o (hI.1 1 _) hi11 dX11_smallest_38 ?_
          generalize g 1 (r9).toNatClampNeg = v12 at hf ⊢
          refine lv_goto (tgt := 43) hx hb dX11_smallest_39 (by decide) ?_
          refine lv_istore_n (lv' := [(2, .int v12), (0, .ref (ad t i 0)), (1, .int w1), (3, .int w3)]) hx hb dX11_smallest_43 rfl hl (by decide) rfl (fun ls hl => ?_)
          refine lv_iinc (v := (w3 + (1 : Int32))) (lv' := [(3, .int (w3 + (1 : Int32))), (2, .int v12), (0, .ref (ad t i 0)), (1, .int w1)]) hx hb dX11_smallest_44 hl (k := 3) rfl (by first | rfl | decide) (by decide) rfl (fun ls hl => ?_)
          refine lv_goto (tgt := 5) hx hb dX11_smallest_47 (by decide) ?_
          exact ih5 _ _ _ _ _ _ hf hW (lv_sub hl [2, 3, 1, 0] rfl)
  exact L5 NF _ _ _ _ _ _ hf hW (lv_sub hl [2, 3, 1, 0] rfl)
def f11_estimated (g : Sg) (a1 : Int32) : Option Int32 :=
  ((f11_smallest g a1).bind (fun r2 => (rd 1805 (g 1) (600 : Int32) (fun v5 => (if v5 = (1 : Int32) then ((f11_isThrough g a1).bind (fun r8 => (if r8 = 0 then (some (r2 + (0 : Int32))) else (some (r2 + (1 : Int32)))))) else (some (r2 + (0 : Int32))))))))
set_option maxHeartbeats 4000000 in
set_option maxRecDepth 100000 in
theorem f11_estimated_ok (l : Launch) (D : va_G) (cy : Nat → ClassId) (ad : Nat → Nat → Nat → Nat) (ns : List (Nat × Nat × Nat)) (M : Me) (t i : Nat) (hI : IsModel cy ad ns t i) (g : Sg) (a1 : Int32) (r : Int32)  (hf : f11_estimated g a1 = some r) : Ci l yX11_estimated (.code yX11_estimated cX11_estimated 2 (some .int) :: tk_tb) { frames := 2, cells := 0, slots := 0, locals := 45 } D cy ad ns [.ref (ad t i 0), .int a1] (uI M t i g) r (uI M t i g) := by
  refine Ci.of (by decide) (Nat.le_of_ble_eq_true rfl) ?_
  intro p e s m below meth c ls hE hW hl
  obtain ⟨hx, hb, hr, hml, hown, hts, hlk, hK⟩ := hE
  have hA : ∀ q : Nat, s.heap.size ≤ q → Aw ad ns s.heap.size q := fun q h => Or.inr h
  have hl : lv_has ls 2 [(0, .ref (ad t i 0)), (1, .int a1)] := hl
  unfold f11_estimated at hf
  refine lv_aload_n hx hb dX11_estimated_0 rfl (lv_at hl 0 rfl) ?_
  refine lv_iload_n hx hb dX11_estimated_1 rfl (lv_at hl 1 rfl) ?_
  obtain ⟨r2, hc1, hf⟩ := bd_some hf
  have hC3 := f11_smallest_ok l D cy ad ns M t i hI g a1 r2 hc1
  refine x_vi (n := 1) (As := [.int a1]) (rest := []) hx hb hml hts hown hK hW hA hC3 (hI.2 0 (by decide)) uI_o (hI.1 0 _) rfl rfl t_851 t_853 p_33 t_14 t_854 rfl (by decide +kernel) rfl rfl ⟨Nat.le_of_ble_eq_true rfl, Nat.le_of_ble_eq_true rfl⟩ hl.1 rfl (lv_room (Nat.le_of_ble_eq_true rfl)) dX11_estimated_2 ⟨(Nat.le_of_ble_eq_true rfl), (Nat.le_of_ble_eq_true rfl)⟩ (fun H locs hW => ?_)
  refine lv_aload_n hx hb dX11_estimated_5 rfl (lv_at hl 0 rfl) ?_
  refine x_get hx hb hts hown hK hW (hI.2 0 (by decide)) uI_o (hI.1 0 _) rfl inX11 2 (by decide) t_742 rfl dX11_estimated_6 ?_
  refine lv_sipush (v := 600) hx hb dX11_estimated_9 (by decide) ?_
  obtain ⟨hi4, hf⟩ := rd_some hf
  refine x_iald hx hb hK hW (hI.2 1 (by decide)) uI_o (hI.1 1 _) hi4 dX11_estimated_12 ?_
  generalize g 1 ((600 : Int32)).toNatClampNeg = v5 at hf ⊢
  refine lv_iconst (v := 1) hx hb dX11_estimated_13 (by decide) ?_
  refine lv_icmp_ne (tgt := 29) hx hb dX11_estimated_14 (by decide) (fun c6 => ?_) (fun c6 => ?_)
  · replace hf := (if_neg c6).symm.trans hf
    refine lv_iconst (v := 0) hx hb dX11_estimated_29 (by decide) ?_
    refine lv_iadd hx hb dX11_estimated_30 ?_
    exact x_iret hx hb hr hlk hK hW (Option.some.inj hf) rfl dX11_estimated_31
  · replace hf := (if_pos c6).symm.trans hf
    refine lv_aload_n hx hb dX11_estimated_17 rfl (lv_at hl 0 rfl) ?_
    refine lv_iload_n hx hb dX11_estimated_18 rfl (lv_at hl 1 rfl) ?_
    obtain ⟨r8, hc7, hf⟩ := bd_some hf
    have hC9 := f11_isThrough_ok l D cy ad ns M t i hI g a1 r8 hc7
    refine x_vi (n := 1) (As := [.int a1]) (rest := [.int r2]) hx hb hml hts hown hK hW hA hC9 (hI.2 0 (by decide)) uI_o (hI.1 0 _) rfl rfl t_847 t_849 p_32 t_14 t_850 rfl (by decide +kernel) rfl rfl ⟨Nat.le_of_ble_eq_true rfl, Nat.le_of_ble_eq_true rfl⟩ hl.1 rfl (lv_room (Nat.le_of_ble_eq_true rfl)) dX11_estimated_19 ⟨(Nat.le_of_ble_eq_true rfl), (Nat.le_of_ble_eq_true rfl)⟩ (fun H locs hW => ?_)
    refine lv_if_eq (tgt := 29) hx hb dX11_estimated_22 (by decide) (fun c10 => ?_) (fun c10 => ?_)
    · replace hf := (if_pos c10).symm.trans hf
      refine lv_iconst (v := 0) hx hb dX11_estimated_29 (by decide) ?_
      refine lv_iadd hx hb dX11_estimated_30 ?_
      exact x_iret hx hb hr hlk hK hW (Option.some.inj hf) rfl dX11_estimated_31
    · replace hf := (if_neg c10).symm.trans hf
      refine lv_iconst (v := 1) hx hb dX11_estimated_25 (by decide) ?_
      refine lv_goto (tgt := 30) hx hb dX11_estimated_26 (by decide) ?_
      refine lv_iadd hx hb dX11_estimated_30 ?_
      exact x_iret hx hb hr hlk hK hW (Option.some.inj hf) rfl dX11_estimated_31
def f11_count_j238 (g : Sg) : Option Sg :=
  (rd 1805 (g 1) (602 : Int32) (fun v38 => (wr 1805 (1395 : Int32) (va_up g 1 (upd (g 1) ((1395 : Int32)).toNatClampNeg (v38 / (2 : Int32)))) (fun g40 => (rd 1805 (g40 1) (1396 : Int32) (fun v42 => (wr 1805 (1396 : Int32) (va_up g40 1 (upd (g40 1) ((1396 : Int32)).toNatClampNeg (v42 + (1 : Int32)))) (fun g44 => ((f11_forgetTimes g44).bind (fun g46 => (some g46)))))))))))
def f11_count_b214 (rec214 : Int32 → Sg → Option Sg) (w2 : Int32) (g : Sg) : Option Sg :=
  (if (128 : Int32) ≤ w2 then (f11_count_j238 g) else (wr 1805 ((862 : Int32) + w2) (va_up g 1 (upd (g 1) (((862 : Int32) + w2)).toNatClampNeg (0 : Int32))) (fun g36 => (rec214 (w2 + (1 : Int32)) g36))))
def f11_count_l214 : Nat → Int32 → Sg → Option Sg
  | 0 => fun _ _ => none
  | k + 1 => f11_count_b214 (f11_count_l214 k)
def f11_count_j212 (g : Sg) : Option Sg :=
  (f11_count_l214 NF (0 : Int32) g)
def f11_count_b185 (rec185 : Int32 → Sg → Option Sg) (w2 : Int32) (g : Sg) : Option Sg :=
  (if (256 : Int32) ≤ w2 then (f11_count_j212 g) else (rd 1805 (g 1) ((606 : Int32) + w2) (fun v31 => (wr 1805 ((606 : Int32) + w2) (va_up g 1 (upd (g 1) (((606 : Int32) + w2)).toNatClampNeg (v31 / (2 : Int32)))) (fun g33 => (rec185 (w2 + (1 : Int32)) g33))))))
def f11_count_l185 : Nat → Int32 → Sg → Option Sg
  | 0 => fun _ _ => none
  | k + 1 => f11_count_b185 (f11_count_l185 k)
def f11_count_j164 (g : Sg) : Option Sg :=
  (rd 1805 (g 1) (1395 : Int32) (fun v25 => (rd 1805 (g 1) (602 : Int32) (fun v27 => (if v25 < v27 then (some g) else (f11_count_l185 NF (0 : Int32) g))))))
def f11_count_j147 (rec97 : Int32 → Int32 → Int32 → Sg → Option Sg) (w1 : Int32) (w2 : Int32) (w3 : Int32) (w4 : Int32) (g : Sg) : Option Sg :=
  (rd 1805 (g 1) w4 (fun v65 => (wr 1805 w4 (va_up g 1 (upd (g 1) (w4).toNatClampNeg (v65 + (1 : Int32)))) (fun g67 => (rec97 w1 w2 (w3 + (1 : Int32)) g67)))))
def f11_count_b97 (rec97 : Int32 → Int32 → Int32 → Sg → Option Sg) (w1 : Int32) (w2 : Int32) (w3 : Int32) (g : Sg) : Option Sg :=
  (if (g 0 0) ≤ w3 then (f11_count_j164 g) else ((f11_cell g w3 w1).bind (fun r53 => (rd 1805 (g 1) r53 (fun v56 => (if (15 : Int32) ≤ v56 then (rec97 w1 w2 (w3 + (1 : Int32)) g) else (rd 1805 (g 1) (601 : Int32) (fun v59 => (if v59 = 0 then (f11_count_j147 rec97 w1 w2 w3 r53 g) else (rd 1805 (g 1) r53 (fun v62 => (if v62 = w2 then (f11_count_j147 rec97 w1 w2 w3 r53 g) else (rec97 w1 w2 (w3 + (1 : Int32)) g)))))))))))))
def f11_count_l97 : Nat → Int32 → Int32 → Int32 → Sg → Option Sg
  | 0 => fun _ _ _ _ => none
  | k + 1 => f11_count_b97 (f11_count_l97 k)
def f11_count_j89 (w1 : Int32) (g : Sg) : Option Sg :=
  ((f11_smallest g w1).bind (fun r49 => (f11_count_l97 NF w1 r49 (0 : Int32) g)))
def f11_count (a1 : Int32) (g : Sg) : Option Sg :=
  (rd 1805 (g 1) (1395 : Int32) (fun v2 => (wr 1805 (1395 : Int32) (va_up g 1 (upd (g 1) ((1395 : Int32)).toNatClampNeg (v2 + (1 : Int32)))) (fun g4 => (rd 1805 (g4 1) ((1705 : Int32) + a1) (fun v6 => (wr 1805 ((1705 : Int32) + a1) (va_up g4 1 (upd (g4 1) (((1705 : Int32) + a1)).toNatClampNeg (v6 + (1 : Int32)))) (fun g8 => (rd 1805 (g8 1) (600 : Int32) (fun v10 => (if v10 = (1 : Int32) then ((f11_isThrough g8 a1).bind (fun r13 => (if r13 = 0 then (rd 1805 (g8 1) ((400 : Int32) + a1) (fun v17 => (wr 1805 ((862 : Int32) + v17) (va_up g8 1 (upd (g8 1) (((862 : Int32) + v17)).toNatClampNeg (1 : Int32))) (fun g19 => (rd 1805 (g19 1) ((500 : Int32) + a1) (fun v21 => (wr 1805 ((862 : Int32) + v21) (va_up g19 1 (upd (g19 1) (((862 : Int32) + v21)).toNatClampNeg (1 : Int32))) (fun g23 => (f11_count_j164 g23))))))))) else (f11_count_j89 a1 g8)))) else (f11_count_j89 a1 g8))))))))))))
set_option maxHeartbeats 4000000 in
set_option maxRecDepth 100000 in
theorem f11_count_ok (l : Launch) (D : va_G) (cy : Nat → ClassId) (ad : Nat → Nat → Nat → Nat) (ns : List (Nat × Nat × Nat)) (M : Me) (t i : Nat) (hI : IsModel cy ad ns t i) (g : Sg) (a1 : Int32) (m2 : Sg)  (hf : f11_count a1 g = some m2) : Cv l yX11_count (.code yX11_count cX11_count 5 none :: tk_tb) { frames := 2, cells := 0, slots := 0, locals := 45 } D cy ad ns [.ref (ad t i 0), .int a1] (uI M t i g) (uI M t i m2) := by
  refine Cv.of (by decide) (Nat.le_of_ble_eq_true rfl) ?_
  intro p e s m below meth c ls hE hW hl
  obtain ⟨hx, hb, hr, hml, hown, hts, hlk, hK⟩ := hE
  have hA : ∀ q : Nat, s.heap.size ≤ q → Aw ad ns s.heap.size q := fun q h => Or.inr h
  have hl : lv_has ls 5 [(0, .ref (ad t i 0)), (1, .int a1)] := hl
  unfold f11_count at hf
  have J238 : ∀ (g : Sg) (H : Heap) (locs : List Loc) (ls : Array Slot), f11_count_j238 g = some m2 → Wl D cy ad ns (Aw ad ns s.heap.size) s.heap (uI M t i g) H locs → lv_has ls 5 [(0, .ref (ad t i 0))] → W p l e { frames := 2, cells := 0, slots := 0, locals := 45 } s m ([.ref (ad t i 0), .int a1] : List Value).toArray below meth c H locs 0 0 (QV below D cy ad ns [.ref (ad t i 0), .int a1] s (uI M t i m2)) (F0 m 238 ls []) := by
    intro g H locs ls hf hW hl
    unfold f11_count_j238 at hf
    refine lv_aload_n hx hb dX11_count_238 rfl (lv_at hl 0 rfl) ?_
    refine x_get hx hb hts hown hK hW (hI.2 0 (by decide)) uI_o (hI.1 0 _) rfl inX11 2 (by decide) t_742 rfl dX11_count_239 ?_
    refine lv_sipush (v := 1395) hx hb dX11_count_242 (by decide) ?_
    refine lv_aload_n hx hb dX11_count_245 rfl (lv_at hl 0 rfl) ?_
    refine x_get hx hb hts hown hK hW (hI.2 0 (by decide)) uI_o (hI.1 0 _) rfl inX11 2 (by decide) t_742 rfl dX11_count_246 ?_
    refine lv_sipush (v := 602) hx hb dX11_count_249 (by decide) ?_
    obtain ⟨hi37, hf⟩ := rd_some hf
    refine x_iald hx hb hK hW (hI.2 1 (by decide)) uI_o (hI.1 1 _) hi37 dX11_count_252 ?_
    generalize g 1 ((602 : Int32)).toNatClampNeg = v38 at hf ⊢
    refine lv_iconst (v := 2) hx hb dX11_count_253 (by decide) ?_
    refine lv_idiv hx hb dX11_count_254 (by decide) ?_
    obtain ⟨hi39, hf⟩ := wr_some hf
    refine x_iast hx hb hK hW (hI.2 1 (by decide)) uI_o (fun _ => (hI.1 1 _)) hi39 uC_leaf dX11_count_255 (fun H locs hW => ?_)
    generalize (va_up g 1 (upd (g 1) ((1395 : Int32)).toNatClampNeg (v38 / (2 : Int32)))) = g40 at hf hW
    refine lv_aload_n hx hb dX11_count_256 rfl (lv_at hl 0 rfl) ?_
    refine x_get hx hb hts hown hK hW (hI.2 0 (by decide)) uI_o (hI.1 0 _) rfl inX11 2 (by decide) t_742 rfl dX11_count_257 ?_
    refine lv_sipush (v := 1396) hx hb dX11_count_260 (by decide) ?_
    refine lv_dup2_11 hx hb dX11_count_263 rfl rfl ?_
    obtain ⟨hi41, hf⟩ := rd_some hf
    refine x_iald hx hb hK hW (hI.2 1 (by decide)) uI_o (hI.1 1 _) hi41 dX11_count_264 ?_
    generalize g40 1 ((1396 : Int32)).toNatClampNeg = v42 at hf ⊢
    refine lv_iconst (v := 1) hx hb dX11_count_265 (by decide) ?_
    refine lv_iadd hx hb dX11_count_266 ?_
    obtain ⟨hi43, hf⟩ := wr_some hf
    refine x_iast hx hb hK hW (hI.2 1 (by decide)) uI_o (fun _ => (hI.1 1 _)) hi43 uC_leaf dX11_count_267 (fun H locs hW => ?_)
    generalize (va_up g40 1 (upd (g40 1) ((1396 : Int32)).toNatClampNeg (v42 + (1 : Int32)))) = g44 at hf hW
    refine lv_aload_n hx hb dX11_count_268 rfl (lv_at hl 0 rfl) ?_
    obtain ⟨g46, hc45, hf⟩ := bd_some hf
    have hC47 := f11_forgetTimes_ok l D cy ad ns M t i hI g44 g46 hc45
    refine x_vv (n := 0) (As := []) (rest := []) hx hb hml hts hown hK hW hA hC47 (hI.2 0 (by decide)) uI_o (hI.1 0 _) rfl rfl t_803 t_805 p_25 t_14 t_806 rfl (by decide +kernel) rfl rfl ⟨Nat.le_of_ble_eq_true rfl, Nat.le_of_ble_eq_true rfl⟩ hl.1 rfl (lv_room (Nat.le_of_ble_eq_true rfl)) dX11_count_269 ⟨(Nat.le_of_ble_eq_true rfl), (Nat.le_of_ble_eq_true rfl)⟩ (fun H locs hW => ?_)
    exact x_vret hx hb hr hlk hK hW (congrArg (fun q => (uI M t i q)) (Option.some.inj hf)) dX11_count_272
  have J212 : ∀ (g : Sg) (H : Heap) (locs : List Loc) (ls : Array Slot), f11_count_j212 g = some m2 → Wl D cy ad ns (Aw ad ns s.heap.size) s.heap (uI M t i g) H locs → lv_has ls 5 [(0, .ref (ad t i 0))] → W p l e { frames := 2, cells := 0, slots := 0, locals := 45 } s m ([.ref (ad t i 0), .int a1] : List Value).toArray below meth c H locs 0 0 (QV below D cy ad ns [.ref (ad t i 0), .int a1] s (uI M t i m2)) (F0 m 212 ls []) := by
    intro g H locs ls hf hW hl
    unfold f11_count_j212 at hf
    refine lv_iconst (v := 0) hx hb dX11_count_212 (by decide) ?_
    refine lv_istore_n (lv' := [(2, .int (0 : Int32)), (0, .ref (ad t i 0))]) hx hb dX11_count_213 rfl hl (by decide) rfl (fun ls hl => ?_)
    have L214 : ∀ (k : Nat) (w2 : Int32) (g : Sg) (H : Heap) (locs : List Loc) (ls : Array Slot), f11_count_l214 k w2 g = some m2 → Wl D cy ad ns (Aw ad ns s.heap.size) s.heap (uI M t i g) H locs → lv_has ls 5 [(0, .ref (ad t i 0)), (2, .int w2)] → W p l e { frames := 2, cells := 0, slots := 0, locals := 45 } s m ([.ref (ad t i 0), .int a1] : List Value).toArray below meth c H locs 0 0 (QV below D cy ad ns [.ref (ad t i 0), .int a1] s (uI M t i m2)) (F0 m 214 ls []) := by
      intro k
      induction k with
      | zero => intro w2 g H locs ls hf; exact absurd hf (by simp [f11_count_l214])
      | succ k214 ih214 =>
        intro w2 g H locs ls hf hW hl
        have hf : f11_count_b214 (f11_count_l214 k214) w2 g = some m2 := hf
        unfold f11_count_b214 at hf
        refine lv_iload_n hx hb dX11_count_214 rfl (lv_at hl 1 rfl) ?_
        refine lv_sipush (v := 128) hx hb dX11_count_215 (by decide) ?_
        refine lv_icmp_ge (tgt := 238) hx hb dX11_count_218 (by decide) (fun c34 => ?_) (fun c34 => ?_)
        · replace hf := (if_pos c34).symm.trans hf
          exact J238 _ _ _ _ hf hW (lv_sub hl [0] rfl)
        · replace hf := (if_neg c34).symm.trans hf
          refine lv_aload_n hx hb dX11_count_221 rfl (lv_at hl 0 rfl) ?_
          refine x_get hx hb hts hown hK hW (hI.2 0 (by decide)) uI_o (hI.1 0 _) rfl inX11 2 (by decide) t_742 rfl dX11_count_222 ?_
          refine lv_sipush (v := 862) hx hb dX11_count_225 (by decide) ?_
          refine lv_iload_n hx hb dX11_count_228 rfl (lv_at hl 1 rfl) ?_
          refine lv_iadd hx hb dX11_count_229 ?_
          refine lv_iconst (v := 0) hx hb dX11_count_230 (by decide) ?_
          obtain ⟨hi35, hf⟩ := wr_some hf
          refine x_iast hx hb hK hW (hI.2 1 (by decide)) uI_o (fun _ => (hI.1 1 _)) hi35 uC_leaf dX11_count_231 (fun H locs hW => ?_)
          generalize (va_up g 1 (upd (g 1) (((862 : Int32) + w2)).toNatClampNeg (0 : Int32))) = g36 at hf hW
          refine lv_iinc (v := (w2 + (1 : Int32))) (lv' := [(2, .int (w2 + (1 : Int32))), (0, .ref (ad t i 0))]) hx hb dX11_count_232 hl (k := 1) rfl (by first | rfl | decide) (by decide) rfl (fun ls hl => ?_)
          refine lv_goto (tgt := 214) hx hb dX11_count_235 (by decide) ?_
          exact ih214 _ _ _ _ _ hf hW (lv_sub hl [1, 0] rfl)
    exact L214 NF _ _ _ _ _ hf hW (lv_sub hl [1, 0] rfl)
  have J164 : ∀ (g : Sg) (H : Heap) (locs : List Loc) (ls : Array Slot), f11_count_j164 g = some m2 → Wl D cy ad ns (Aw ad ns s.heap.size) s.heap (uI M t i g) H locs → lv_has ls 5 [(0, .ref (ad t i 0))] → W p l e { frames := 2, cells := 0, slots := 0, locals := 45 } s m ([.ref (ad t i 0), .int a1] : List Value).toArray below meth c H locs 0 0 (QV below D cy ad ns [.ref (ad t i 0), .int a1] s (uI M t i m2)) (F0 m 164 ls []) := by
    intro g H locs ls hf hW hl
    unfold f11_count_j164 at hf
    refine lv_aload_n hx hb dX11_count_164 rfl (lv_at hl 0 rfl) ?_
    refine x_get hx hb hts hown hK hW (hI.2 0 (by decide)) uI_o (hI.1 0 _) rfl inX11 2 (by decide) t_742 rfl dX11_count_165 ?_
    refine lv_sipush (v := 1395) hx hb dX11_count_168 (by decide) ?_
    obtain ⟨hi24, hf⟩ := rd_some hf
    refine x_iald hx hb hK hW (hI.2 1 (by decide)) uI_o (hI.1 1 _) hi24 dX11_count_171 ?_
    generalize g 1 ((1395 : Int32)).toNatClampNeg = v25 at hf ⊢
    refine lv_aload_n hx hb dX11_count_172 rfl (lv_at hl 0 rfl) ?_
    refine x_get hx hb hts hown hK hW (hI.2 0 (by decide)) uI_o (hI.1 0 _) rfl inX11 2 (by decide) t_742 rfl dX11_count_173 ?_
    refine lv_sipush (v := 602) hx hb dX11_count_176 (by decide) ?_
    obtain ⟨hi26, hf⟩ := rd_some hf
    refine x_iald hx hb hK hW (hI.2 1 (by decide)) uI_o (hI.1 1 _) hi26 dX11_count_179 ?_
    generalize g 1 ((602 : Int32)).toNatClampNeg = v27 at hf ⊢
    refine lv_icmp_lt (tgt := 272) hx hb dX11_count_180 (by decide) (fun c28 => ?_) (fun c28 => ?_)
    · replace hf := (if_pos c28).symm.trans hf
      exact x_vret hx hb hr hlk hK hW (congrArg (fun q => (uI M t i q)) (Option.some.inj hf)) dX11_count_272
    · replace hf := (if_neg c28).symm.trans hf
      refine lv_iconst (v := 0) hx hb dX11_count_183 (by decide) ?_
      refine lv_istore_n (lv' := [(2, .int (0 : Int32)), (0, .ref (ad t i 0))]) hx hb dX11_count_184 rfl hl (by decide) rfl (fun ls hl => ?_)
      have L185 : ∀ (k : Nat) (w2 : Int32) (g : Sg) (H : Heap) (locs : List Loc) (ls : Array Slot), f11_count_l185 k w2 g = some m2 → Wl D cy ad ns (Aw ad ns s.heap.size) s.heap (uI M t i g) H locs → lv_has ls 5 [(0, .ref (ad t i 0)), (2, .int w2)] → W p l e { frames := 2, cells := 0, slots := 0, locals := 45 } s m ([.ref (ad t i 0), .int a1] : List Value).toArray below meth c H locs 0 0 (QV below D cy ad ns [.ref (ad t i 0), .int a1] s (uI M t i m2)) (F0 m 185 ls []) := by
        intro k
        induction k with
        | zero => intro w2 g H locs ls hf; exact absurd hf (by simp [f11_count_l185])
        | succ k185 ih185 =>
          intro w2 g H locs ls hf hW hl
          have hf : f11_count_b185 (f11_count_l185 k185) w2 g = some m2 := hf
          unfold f11_count_b185 at hf
          refine lv_iload_n hx hb dX11_count_185 rfl (lv_at hl 1 rfl) ?_
          refine lv_sipush (v := 256) hx hb dX11_count_186 (by decide) ?_
          refine lv_icmp_ge (tgt := 212) hx hb dX11_count_189 (by decide) (fun c29 => ?_) (fun c29 => ?_)
          · replace hf := (if_pos c29).symm.trans hf
            exact J212 _ _ _ _ hf hW (lv_sub hl [0] rfl)
          · replace hf := (if_neg c29).symm.trans hf
            refine lv_aload_n hx hb dX11_count_192 rfl (lv_at hl 0 rfl) ?_
            refine x_get hx hb hts hown hK hW (hI.2 0 (by decide)) uI_o (hI.1 0 _) rfl inX11 2 (by decide) t_742 rfl dX11_count_193 ?_
            refine lv_sipush (v := 606) hx hb dX11_count_196 (by decide) ?_
            refine lv_iload_n hx hb dX11_count_199 rfl (lv_at hl 1 rfl) ?_
            refine lv_iadd hx hb dX11_count_200 ?_
            refine lv_dup2_11 hx hb dX11_count_201 rfl rfl ?_
            obtain ⟨hi30, hf⟩ := rd_some hf
            refine x_iald hx hb hK hW (hI.2 1 (by decide)) uI_o (hI.1 1 _) hi30 dX11_count_202 ?_
            generalize g 1 (((606 : Int32) + w2)).toNatClampNeg = v31 at hf ⊢
            refine lv_iconst (v := 2) hx hb dX11_count_203 (by decide) ?_
            refine lv_idiv hx hb dX11_count_204 (by decide) ?_
            obtain ⟨hi32, hf⟩ := wr_some hf
            refine x_iast hx hb hK hW (hI.2 1 (by decide)) uI_o (fun _ => (hI.1 1 _)) hi32 uC_leaf dX11_count_205 (fun H locs hW => ?_)
            generalize (va_up g 1 (upd (g 1) (((606 : Int32) + w2)).toNatClampNeg (v31 / (2 : Int32)))) = g33 at hf hW
            refine lv_iinc (v := (w2 + (1 : Int32))) (lv' := [(2, .int (w2 + (1 : Int32))), (0, .ref (ad t i 0))]) hx hb dX11_count_206 hl (k := 1) rfl (by first | rfl | decide) (by decide) rfl (fun ls hl => ?_)
            refine lv_goto (tgt := 185) hx hb dX11_count_209 (by decide) ?_
            exact ih185 _ _ _ _ _ hf hW (lv_sub hl [1, 0] rfl)
      exact L185 NF _ _ _ _ _ hf hW (lv_sub hl [1, 0] rfl)
  have J89 : ∀ (w1 : Int32) (g : Sg) (H : Heap) (locs : List Loc) (ls : Array Slot), f11_count_j89 w1 g = some m2 → Wl D cy ad ns (Aw ad ns s.heap.size) s.heap (uI M t i g) H locs → lv_has ls 5 [(0, .ref (ad t i 0)), (1, .int w1)] → W p l e { frames := 2, cells := 0, slots := 0, locals := 45 } s m ([.ref (ad t i 0), .int a1] : List Value).toArray below meth c H locs 0 0 (QV below D cy ad ns [.ref (ad t i 0), .int a1] s (uI M t i m2)) (F0 m 89 ls []) := by
    intro w1 g H locs ls hf hW hl
    unfold f11_count_j89 at hf
    refine lv_aload_n hx hb dX11_count_89 rfl (lv_at hl 0 rfl) ?_
    refine lv_iload_n hx hb dX11_count_90 rfl (lv_at hl 1 rfl) ?_
    obtain ⟨r49, hc48, hf⟩ := bd_some hf
    have hC50 := f11_smallest_ok l D cy ad ns M t i hI g w1 r49 hc48
    refine x_vi (n := 1) (As := [.int w1]) (rest := []) hx hb hml hts hown hK hW hA hC50 (hI.2 0 (by decide)) uI_o (hI.1 0 _) rfl rfl t_851 t_853 p_33 t_14 t_854 rfl (by decide +kernel) rfl rfl ⟨Nat.le_of_ble_eq_true rfl, Nat.le_of_ble_eq_true rfl⟩ hl.1 rfl (lv_room (Nat.le_of_ble_eq_true rfl)) dX11_count_91 ⟨(Nat.le_of_ble_eq_true rfl), (Nat.le_of_ble_eq_true rfl)⟩ (fun H locs hW => ?_)
    refine lv_istore_n (lv' := [(2, .int r49), (0, .ref (ad t i 0)), (1, .int w1)]) hx hb dX11_count_94 rfl hl (by decide) rfl (fun ls hl => ?_)
    refine lv_iconst (v := 0) hx hb dX11_count_95 (by decide) ?_
    refine lv_istore_n (lv' := [(3, .int (0 : Int32)), (2, .int r49), (0, .ref (ad t i 0)), (1, .int w1)]) hx hb dX11_count_96 rfl hl (by decide) rfl (fun ls hl => ?_)
    have L97 : ∀ (k : Nat) (w1 : Int32) (w2 : Int32) (w3 : Int32) (g : Sg) (H : Heap) (locs : List Loc) (ls : Array Slot), f11_count_l97 k w1 w2 w3 g = some m2 → Wl D cy ad ns (Aw ad ns s.heap.size) s.heap (uI M t i g) H locs → lv_has ls 5 [(0, .ref (ad t i 0)), (1, .int w1), (2, .int w2), (3, .int w3)] → W p l e { frames := 2, cells := 0, slots := 0, locals := 45 } s m ([.ref (ad t i 0), .int a1] : List Value).toArray below meth c H locs 0 0 (QV below D cy ad ns [.ref (ad t i 0), .int a1] s (uI M t i m2)) (F0 m 97 ls []) := by
      intro k
      induction k with
      | zero => intro w1 w2 w3 g H locs ls hf; exact absurd hf (by simp [f11_count_l97])
      | succ k97 ih97 =>
        intro w1 w2 w3 g H locs ls hf hW hl
        have hf : f11_count_b97 (f11_count_l97 k97) w1 w2 w3 g = some m2 := hf
        unfold f11_count_b97 at hf
        have J147 : ∀ (w1 : Int32) (w2 : Int32) (w3 : Int32) (w4 : Int32) (g : Sg) (H : Heap) (locs : List Loc) (ls : Array Slot), f11_count_j147 (f11_count_l97 k97) w1 w2 w3 w4 g = some m2 → Wl D cy ad ns (Aw ad ns s.heap.size) s.heap (uI M t i g) H locs → lv_has ls 5 [(0, .ref (ad t i 0)), (1, .int w1), (2, .int w2), (3, .int w3), (4, .int w4)] → W p l e { frames := 2, cells := 0, slots := 0, locals := 45 } s m ([.ref (ad t i 0), .int a1] : List Value).toArray below meth c H locs 0 0 (QV below D cy ad ns [.ref (ad t i 0), .int a1] s (uI M t i m2)) (F0 m 147 ls []) := by
          intro w1 w2 w3 w4 g H locs ls hf hW hl
          unfold f11_count_j147 at hf
          refine lv_aload_n hx hb dX11_count_147 rfl (lv_at hl 0 rfl) ?_
          refine x_get hx hb hts hown hK hW (hI.2 0 (by decide)) uI_o (hI.1 0 _) rfl inX11 2 (by decide) t_742 rfl dX11_count_148 ?_
          refine lv_iload hx hb dX11_count_151 (lv_at hl 4 rfl) ?_
          refine lv_dup2_11 hx hb dX11_count_153 rfl rfl ?_
          obtain ⟨hi64, hf⟩ := rd_some hf
          refine x_iald hx hb hK hW (hI.2 1 (by decide)) uI_o (hI.1 1 _) hi64 dX11_count_154 ?_
          generalize g 1 (w4).toNatClampNeg = v65 at hf ⊢
          refine lv_iconst (v := 1) hx hb dX11_count_155 (by decide) ?_
          refine lv_iadd hx hb dX11_count_156 ?_
          obtain ⟨hi66, hf⟩ := wr_some hf
          refine x_iast hx hb hK hW (hI.2 1 (by decide)) uI_o (fun _ => (hI.1 1 _)) hi66 uC_leaf dX11_count_157 (fun H locs hW => ?_)
          generalize (va_up g 1 (upd (g 1) (w4).toNatClampNeg (v65 + (1 : Int32)))) = g67 at hf hW
          refine lv_iinc (v := (w3 + (1 : Int32))) (lv' := [(3, .int (w3 + (1 : Int32))), (0, .ref (ad t i 0)), (1, .int w1), (2, .int w2), (4, .int w4)]) hx hb dX11_count_158 hl (k := 3) rfl (by first | rfl | decide) (by decide) rfl (fun ls hl => ?_)
          refine lv_goto (tgt := 97) hx hb dX11_count_161 (by decide) ?_
          exact ih97 _ _ _ _ _ _ _ hf hW (lv_sub hl [1, 2, 3, 0] rfl)
        refine lv_iload_n hx hb dX11_count_97 rfl (lv_at hl 3 rfl) ?_
        refine lv_aload_n hx hb dX11_count_98 rfl (lv_at hl 0 rfl) ?_
        refine x_get hx hb hts hown hK hW (hI.2 0 (by decide)) uI_o (hI.1 0 _) rfl inX11 0 (by decide) t_740 rfl dX11_count_99 ?_
        refine lv_icmp_ge (tgt := 164) hx hb dX11_count_102 (by decide) (fun c51 => ?_) (fun c51 => ?_)
        · replace hf := (if_pos c51).symm.trans hf
          exact J164 _ _ _ _ hf hW (lv_sub hl [0] rfl)
        · replace hf := (if_neg c51).symm.trans hf
          refine lv_aload_n hx hb dX11_count_105 rfl (lv_at hl 0 rfl) ?_
          refine lv_iload_n hx hb dX11_count_106 rfl (lv_at hl 3 rfl) ?_
          refine lv_iload_n hx hb dX11_count_107 rfl (lv_at hl 1 rfl) ?_
          obtain ⟨r53, hc52, hf⟩ := bd_some hf
          have hC54 := f11_cell_ok l D cy ad ns M t i hI g w3 w1 r53 hc52
          refine x_vi (n := 2) (As := [.int w3, .int w1]) (rest := []) hx hb hml hts hown hK hW hA hC54 (hI.2 0 (by decide)) uI_o (hI.1 0 _) rfl rfl t_855 t_857 p_34 t_14 t_858 rfl (by decide +kernel) rfl rfl ⟨Nat.le_of_ble_eq_true rfl, Nat.le_of_ble_eq_true rfl⟩ hl.1 rfl (lv_room (Nat.le_of_ble_eq_true rfl)) dX11_count_108 ⟨(Nat.le_of_ble_eq_true rfl), (Nat.le_of_ble_eq_true rfl)⟩ (fun H locs hW => ?_)
          refine lv_istore (lv' := [(4, .int r53), (0, .ref (ad t i 0)), (1, .int w1), (2, .int w2), (3, .int w3)]) hx hb dX11_count_111 hl (by decide) rfl (fun ls hl => ?_)
          refine lv_aload_n hx hb dX11_count_113 rfl (lv_at hl 1 rfl) ?_
          refine x_get hx hb hts hown hK hW (hI.2 0 (by decide)) uI_o (hI.1 0 _) rfl inX11 2 (by decide) t_742 rfl dX11_count_114 ?_
          refine lv_iload hx hb dX11_count_117 (lv_at hl 0 rfl) ?_
          obtain ⟨hi55, hf⟩ := rd_some hf
          refine x_iald hx hb hK hW (hI.2 1 (by decide)) uI_o (hI.1 1 _) hi55 dX11_count_119 ?_
          generalize g 1 (r53).toNatClampNeg = v56 at hf ⊢
          refine lv_bipush (v := 15) hx hb dX11_count_120 (by decide) ?_
          refine lv_icmp_ge (tgt := 158) hx hb dX11_count_122 (by decide) (fun c57 => ?_) (fun c57 => ?_)
          · replace hf := (if_pos c57).symm.trans hf
            refine lv_iinc (v := (w3 + (1 : Int32))) (lv' := [(3, .int (w3 + (1 : Int32))), (4, .int r53), (0, .ref (ad t i 0)), (1, .int w1), (2, .int w2)]) hx hb dX11_count_158 hl (k := 4) rfl (by first | rfl | decide) (by decide) rfl (fun ls hl => ?_)
            refine lv_goto (tgt := 97) hx hb dX11_count_161 (by decide) ?_
            exact ih97 _ _ _ _ _ _ _ hf hW (lv_sub hl [2, 3, 4, 0] rfl)
          · replace hf := (if_neg c57).symm.trans hf
            refine lv_aload_n hx hb dX11_count_125 rfl (lv_at hl 1 rfl) ?_
            refine x_get hx hb hts hown hK hW (hI.2 0 (by decide)) uI_o (hI.1 0 _) rfl inX11 2 (by decide) t_742 rfl dX11_count_126 ?_
            refine lv_sipush (v := 601) hx hb dX11_count_129 (by decide) ?_
            obtain ⟨hi58, hf⟩ := rd_some hf
            refine x_iald hx hb hK hW (hI.2 1 (by decide)) uI_o (hI.1 1 _) hi58 dX11_count_132 ?_
            generalize g 1 ((601 : Int32)).toNatClampNeg = v59 at hf ⊢
            refine lv_if_eq (tgt := 147) hx hb dX11_count_133 (by decide) (fun c60 => ?_) (fun c60 => ?_)
            · replace hf := (if_pos c60).symm.trans hf
              exact J147 _ _ _ _ _ _ _ _ hf hW (lv_sub hl [1, 2, 3, 4, 0] rfl)
            · replace hf := (if_neg c60).symm.trans hf
              refine lv_aload_n hx hb dX11_count_136 rfl (lv_at hl 1 rfl) ?_
              refine x_get hx hb hts hown hK hW (hI.2 0 (by decide)) uI_o (hI.1 0 _) rfl inX11 2 (by decide) t_742 rfl dX11_count_137 ?_
              refine lv_iload hx hb dX11_count_140 (lv_at hl 0 rfl) ?_
              obtain ⟨hi61, hf⟩ := rd_some hf
              refine x_iald hx hb hK hW (hI.2 1 (by decide)) uI_o (hI.1 1 _) hi61 dX11_count_142 ?_
              generalize g 1 (r53).toNatClampNeg = v62 at hf ⊢
              refine lv_iload_n hx hb dX11_count_143 rfl (lv_at hl 3 rfl) ?_
              refine lv_icmp_ne (tgt := 158) hx hb dX11_count_144 (by decide) (fun c63 => ?_) (fun c63 => ?_)
              · replace hf := (if_neg c63).symm.trans hf
                refine lv_iinc (v := (w3 + (1 : Int32))) (lv' := [(3, .int (w3 + (1 : Int32))), (4, .int r53), (0, .ref (ad t i 0)), (1, .int w1), (2, .int w2)]) hx hb dX11_count_158 hl (k := 4) rfl (by first | rfl | decide) (by decide) rfl (fun ls hl => ?_)
                refine lv_goto (tgt := 97) hx hb dX11_count_161 (by decide) ?_
                exact ih97 _ _ _ _ _ _ _ hf hW (lv_sub hl [2, 3, 4, 0] rfl)
              · replace hf := (if_pos c63).symm.trans hf
                exact J147 _ _ _ _ _ _ _ _ hf hW (lv_sub hl [1, 2, 3, 4, 0] rfl)
    exact L97 NF _ _ _ _ _ _ _ hf hW (lv_sub hl [2, 3, 1, 0] rfl)
  refine lv_aload_n hx hb dX11_count_0 rfl (lv_at hl 0 rfl) ?_
  refine x_get hx hb hts hown hK hW (hI.2 0 (by decide)) uI_o (hI.1 0 _) rfl inX11 2 (by decide) t_742 rfl dX11_count_1 ?_
  refine lv_sipush (v := 1395) hx hb dX11_count_4 (by decide) ?_
  refine lv_dup2_11 hx hb dX11_count_7 rfl rfl ?_
  obtain ⟨hi1, hf⟩ := rd_some hf
  refine x_iald hx hb hK hW (hI.2 1 (by decide)) uI_o (hI.1 1 _) hi1 dX11_count_8 ?_
  generalize g 1 ((1395 : Int32)).toNatClampNeg = v2 at hf ⊢
  refine lv_iconst (v := 1) hx hb dX11_count_9 (by decide) ?_
  refine lv_iadd hx hb dX11_count_10 ?_
  obtain ⟨hi3, hf⟩ := wr_some hf
  refine x_iast hx hb hK hW (hI.2 1 (by decide)) uI_o (fun _ => (hI.1 1 _)) hi3 uC_leaf dX11_count_11 (fun H locs hW => ?_)
  generalize (va_up g 1 (upd (g 1) ((1395 : Int32)).toNatClampNeg (v2 + (1 : Int32)))) = g4 at hf hW
  refine lv_aload_n hx hb dX11_count_12 rfl (lv_at hl 0 rfl) ?_
  refine x_get hx hb hts hown hK hW (hI.2 0 (by decide)) uI_o (hI.1 0 _) rfl inX11 2 (by decide) t_742 rfl dX11_count_13 ?_
  refine lv_sipush (v := 1705) hx hb dX11_count_16 (by decide) ?_
  refine lv_iload_n hx hb dX11_count_19 rfl (lv_at hl 1 rfl) ?_
  refine lv_iadd hx hb dX11_count_20 ?_
  refine lv_dup2_11 hx hb dX11_count_21 rfl rfl ?_
  obtain ⟨hi5, hf⟩ := rd_some hf
  refine x_iald hx hb hK hW (hI.2 1 (by decide)) uI_o (hI.1 1 _) hi5 dX11_count_22 ?_
  generalize g4 1 (((1705 : Int32) + a1)).toNatClampNeg = v6 at hf ⊢
  refine lv_iconst (v := 1) hx hb dX11_count_23 (by decide) ?_
  refine lv_iadd hx hb dX11_count_24 ?_
  obtain ⟨hi7, hf⟩ := wr_some hf
  refine x_iast hx hb hK hW (hI.2 1 (by decide)) uI_o (fun _ => (hI.1 1 _)) hi7 uC_leaf dX11_count_25 (fun H locs hW => ?_)
  generalize (va_up g4 1 (upd (g4 1) (((1705 : Int32) + a1)).toNatClampNeg (v6 + (1 : Int32)))) = g8 at hf hW
  refine lv_aload_n hx hb dX11_count_26 rfl (lv_at hl 0 rfl) ?_
  refine x_get hx hb hts hown hK hW (hI.2 0 (by decide)) uI_o (hI.1 0 _) rfl inX11 2 (by decide) t_742 rfl dX11_count_27 ?_
  refine lv_sipush (v := 600) hx hb dX11_count_30 (by decide) ?_
  obtain ⟨hi9, hf⟩ := rd_some hf
  refine x_iald hx hb hK hW (hI.2 1 (by decide)) uI_o (hI.1 1 _) hi9 dX11_count_33 ?_
  generalize g8 1 ((600 : Int32)).toNatClampNeg = v10 at hf ⊢
  refine lv_iconst (v := 1) hx hb dX11_count_34 (by decide) ?_
  refine lv_icmp_ne (tgt := 89) hx hb dX11_count_35 (by decide) (fun c11 => ?_) (fun c11 => ?_)
  · replace hf := (if_neg c11).symm.trans hf
    exact J89 _ _ _ _ _ hf hW (lv_sub hl [0, 1] rfl)
  · replace hf := (if_pos c11).symm.trans hf
    refine lv_aload_n hx hb dX11_count_38 rfl (lv_at hl 0 rfl) ?_
    refine lv_iload_n hx hb dX11_count_39 rfl (lv_at hl 1 rfl) ?_
    obtain ⟨r13, hc12, hf⟩ := bd_some hf
    have hC14 := f11_isThrough_ok l D cy ad ns M t i hI g8 a1 r13 hc12
    refine x_vi (n := 1) (As := [.int a1]) (rest := []) hx hb hml hts hown hK hW hA hC14 (hI.2 0 (by decide)) uI_o (hI.1 0 _) rfl rfl t_847 t_849 p_32 t_14 t_850 rfl (by decide +kernel) rfl rfl ⟨Nat.le_of_ble_eq_true rfl, Nat.le_of_ble_eq_true rfl⟩ hl.1 rfl (lv_room (Nat.le_of_ble_eq_true rfl)) dX11_count_40 ⟨(Nat.le_of_ble_eq_true rfl), (Nat.le_of_ble_eq_true rfl)⟩ (fun H locs hW => ?_)
    refine lv_if_ne (tgt := 89) hx hb dX11_count_43 (by decide) (fun c15 => ?_) (fun c15 => ?_)
    · replace hf := (if_neg c15).symm.trans hf
      exact J89 _ _ _ _ _ hf hW (lv_sub hl [0, 1] rfl)
    · replace hf := (if_pos c15).symm.trans hf
      refine lv_aload_n hx hb dX11_count_46 rfl (lv_at hl 0 rfl) ?_
      refine x_get hx hb hts hown hK hW (hI.2 0 (by decide)) uI_o (hI.1 0 _) rfl inX11 2 (by decide) t_742 rfl dX11_count_47 ?_
      refine lv_sipush (v := 862) hx hb dX11_count_50 (by decide) ?_
      refine lv_aload_n hx hb dX11_count_53 rfl (lv_at hl 0 rfl) ?_
      refine x_get hx hb hts hown hK hW (hI.2 0 (by decide)) uI_o (hI.1 0 _) rfl inX11 2 (by decide) t_742 rfl dX11_count_54 ?_
      refine lv_sipush (v := 400) hx hb dX11_count_57 (by decide) ?_
      refine lv_iload_n hx hb dX11_count_60 rfl (lv_at hl 1 rfl) ?_
      refine lv_iadd hx hb dX11_count_61 ?_
      obtain ⟨hi16, hf⟩ := rd_some hf
      refine x_iald hx hb hK hW (hI.2 1 (by decide)) uI_o (hI.1 1 _) hi16 dX11_count_62 ?_
      generalize g8 1 (((400 : Int32) + a1)).toNatClampNeg = v17 at hf ⊢
      refine lv_iadd hx hb dX11_count_63 ?_
      refine lv_iconst (v := 1) hx hb dX11_count_64 (by decide) ?_
      obtain ⟨hi18, hf⟩ := wr_some hf
      refine x_iast hx hb hK hW (hI.2 1 (by decide)) uI_o (fun _ => (hI.1 1 _)) hi18 uC_leaf dX11_count_65 (fun H locs hW => ?_)
      generalize (va_up g8 1 (upd (g8 1) (((862 : Int32) + v17)).toNatClampNeg (1 : Int32))) = g19 at hf hW
      refine lv_aload_n hx hb dX11_count_66 rfl (lv_at hl 0 rfl) ?_
      refine x_get hx hb hts hown hK hW (hI.2 0 (by decide)) uI_o (hI.1 0 _) rfl inX11 2 (by decide) t_742 rfl dX11_count_67 ?_
      refine lv_sipush (v := 862) hx hb dX11_count_70 (by decide) ?_
      refine lv_aload_n hx hb dX11_count_73 rfl (lv_at hl 0 rfl) ?_
      refine x_get hx hb hts hown hK hW (hI.2 0 (by decide)) uI_o (hI.1 0 _) rfl inX11 2 (by decide) t_742 rfl dX11_count_74 ?_
      refine lv_sipush (v := 500) hx hb dX11_count_77 (by decide) ?_
      refine lv_iload_n hx hb dX11_count_80 rfl (lv_at hl 1 rfl) ?_
      refine lv_iadd hx hb dX11_count_81 ?_
      obtain ⟨hi20, hf⟩ := rd_some hf
      refine x_iald hx hb hK hW (hI.2 1 (by decide)) uI_o (hI.1 1 _) hi20 dX11_count_82 ?_
      generalize g19 1 (((500 : Int32) + a1)).toNatClampNeg = v21 at hf ⊢
      refine lv_iadd hx hb dX11_count_83 ?_
      refine lv_iconst (v := 1) hx hb dX11_count_84 (by decide) ?_
      obtain ⟨hi22, hf⟩ := wr_some hf
      refine x_iast hx hb hK hW (hI.2 1 (by decide)) uI_o (fun _ => (hI.1 1 _)) hi22 uC_leaf dX11_count_85 (fun H locs hW => ?_)
      generalize (va_up g19 1 (upd (g19 1) (((862 : Int32) + v21)).toNatClampNeg (1 : Int32))) = g23 at hf hW
      refine lv_goto (tgt := 164) hx hb dX11_count_86 (by decide) ?_
      exact J164 _ _ _ _ hf hW (lv_sub hl [0] rfl)
