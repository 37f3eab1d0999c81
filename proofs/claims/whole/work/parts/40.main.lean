def f10_isKey (a0 : Int32) : Option Int32 :=
  (if a0 < 0 then (some (0 : Int32)) else (if (100 : Int32) ≤ a0 then (some (0 : Int32)) else (some (1 : Int32))))
set_option maxHeartbeats 4000000 in
set_option maxRecDepth 100000 in
theorem f10_isKey_ok (l : Launch) (D : va_G) (cy : Nat → ClassId) (ad : Nat → Nat → Nat → Nat) (ns : List (Nat × Nat × Nat)) (M : Me) (a0 : Int32) (r : Int32)  (hf : f10_isKey a0 = some r) : Ci l yX10_isKey (.code yX10_isKey cX10_isKey 1 (some .boolean) :: tk_tb) { frames := 0, cells := 0, slots := 0, locals := 0 } D cy ad ns [.int a0] M r M := by
  refine Ci.of (by decide) (Nat.le_of_ble_eq_true rfl) ?_
  intro p e s m below meth c ls hE hW hl
  obtain ⟨hx, hb, hr, hml, hown, hts, hlk, hK⟩ := hE
  have hA : ∀ q : Nat, s.heap.size ≤ q → Aw ad ns s.heap.size q := fun q h => Or.inr h
  have hl : lv_has ls 1 [(0, .int a0)] := hl
  unfold f10_isKey at hf
  refine lv_iload_n hx hb dX10_isKey_0 rfl (lv_at hl 0 rfl) ?_
  refine lv_if_lt (tgt := 14) hx hb dX10_isKey_1 (by decide) (fun c1 => ?_) (fun c1 => ?_)
  · replace hf := (if_pos c1).symm.trans hf
    refine lv_iconst (v := 0) hx hb dX10_isKey_14 (by decide) ?_
    exact x_zret hx hb hr hlk (by first | decide | rfl) hK hW (Option.some.inj hf) rfl dX10_isKey_15
  · replace hf := (if_neg c1).symm.trans hf
    refine lv_iload_n hx hb dX10_isKey_4 rfl (lv_at hl 0 rfl) ?_
    refine lv_bipush (v := 100) hx hb dX10_isKey_5 (by decide) ?_
    refine lv_icmp_ge (tgt := 14) hx hb dX10_isKey_7 (by decide) (fun c2 => ?_) (fun c2 => ?_)
    · replace hf := (if_pos c2).symm.trans hf
      refine lv_iconst (v := 0) hx hb dX10_isKey_14 (by decide) ?_
      exact x_zret hx hb hr hlk (by first | decide | rfl) hK hW (Option.some.inj hf) rfl dX10_isKey_15
    · replace hf := (if_neg c2).symm.trans hf
      refine lv_iconst (v := 1) hx hb dX10_isKey_10 (by decide) ?_
      refine lv_goto (tgt := 15) hx hb dX10_isKey_11 (by decide) ?_
      exact x_zret hx hb hr hlk (by first | decide | rfl) hK hW (Option.some.inj hf) rfl dX10_isKey_15
def f10_place (a1 : Int32) (a2 : Int32) (a3 : Int32) (M : Me) : Option (Int32 × Me) :=
  (if a1 < 0 then (some ((-2 : Int32), M)) else (if (M 6 0 0 0) ≤ a1 then (some ((-2 : Int32), M)) else ((f10_isKey a2).bind (fun r4 => (if r4 = 0 then (some ((-2 : Int32), M)) else (if a3 < 0 then (some ((-2 : Int32), M)) else (if a3 < (64 : Int32) then (b2 (f7_tellPlace a1 a2 a3 (M 0 2)) (fun r12 g10 => (st (uI M 0 2 g10) (fun M11 => (some (r12, M11)))))) else (some ((-2 : Int32), M)))))))))
set_option maxHeartbeats 4000000 in
set_option maxRecDepth 100000 in
theorem f10_place_ok (l : Launch) (D : va_G) (cy : Nat → ClassId) (ad : Nat → Nat → Nat → Nat) (ns : List (Nat × Nat × Nat)) (hI0 : IsSt cy ad ns 0) (hI5 : IsPl cy ad ns 5) (hI6 : IsMain cy ad ns 6 0) (M : Me) (a1 : Int32) (a2 : Int32) (a3 : Int32) (r : Int32) (m2 : Me)  (hf : f10_place a1 a2 a3 M = some (r, m2)) : Ci l yX10_place (.code yX10_place cX10_place 4 (some .int) :: tk_tb) { frames := 3, cells := 0, slots := 0, locals := 69 } D cy ad ns [.ref (ad 6 0 0), .int a1, .int a2, .int a3] M r m2 := by
  refine Ci.of (by decide) (Nat.le_of_ble_eq_true rfl) ?_
  intro p e s m below meth c ls hE hW hl
  obtain ⟨hx, hb, hr, hml, hown, hts, hlk, hK⟩ := hE
  have hA : ∀ q : Nat, s.heap.size ≤ q → Aw ad ns s.heap.size q := fun q h => Or.inr h
  have hl : lv_has ls 4 [(0, .ref (ad 6 0 0)), (1, .int a1), (2, .int a2), (3, .int a3)] := hl
  unfold f10_place at hf
  refine lv_iload_n hx hb dX10_place_0 rfl (lv_at hl 1 rfl) ?_
  refine lv_if_lt (tgt := 29) hx hb dX10_place_1 (by decide) (fun c1 => ?_) (fun c1 => ?_)
  · replace hf := (if_pos c1).symm.trans hf
    refine lv_bipush (v := -2) hx hb dX10_place_29 (by decide) ?_
    exact x_iret hx hb hr hlk hK hW (congrArg Prod.fst (Option.some.inj hf)) (congrArg (fun q => (Prod.snd q)) (Option.some.inj hf)) dX10_place_31
  · replace hf := (if_neg c1).symm.trans hf
    refine lv_iload_n hx hb dX10_place_4 rfl (lv_at hl 1 rfl) ?_
    refine lv_aload_n hx hb dX10_place_5 rfl (lv_at hl 0 rfl) ?_
    refine x_get hx hb hts hown hK hW (hI6.2 0 (by decide)) rfl (hI6.1 0 _) rfl inX10 0 (by decide) t_303 rfl dX10_place_6 ?_
    refine lv_icmp_ge (tgt := 29) hx hb dX10_place_9 (by decide) (fun c2 => ?_) (fun c2 => ?_)
    · replace hf := (if_pos c2).symm.trans hf
      refine lv_bipush (v := -2) hx hb dX10_place_29 (by decide) ?_
      exact x_iret hx hb hr hlk hK hW (congrArg Prod.fst (Option.some.inj hf)) (congrArg (fun q => (Prod.snd q)) (Option.some.inj hf)) dX10_place_31
    · replace hf := (if_neg c2).symm.trans hf
      refine lv_iload_n hx hb dX10_place_12 rfl (lv_at hl 2 rfl) ?_
      obtain ⟨r4, hc3, hf⟩ := bd_some hf
      have hC5 := f10_isKey_ok l D cy ad ns M a2 r4 hc3
      refine x_si (n := 1) (As := [.int a2]) (rest := []) hx hb hml hts hown hK hW hA hC5 t_326 t_327 t_1 t_328 rfl (by decide +kernel) rfl rfl ⟨Nat.le_of_ble_eq_true rfl, Nat.le_of_ble_eq_true rfl⟩ hl.1 rfl (lv_room (Nat.le_of_ble_eq_true rfl)) dX10_place_13 ⟨(Nat.le_of_ble_eq_true rfl), (Nat.le_of_ble_eq_true rfl)⟩ (fun H locs hW => ?_)
      refine lv_if_eq (tgt := 29) hx hb dX10_place_16 (by decide) (fun c6 => ?_) (fun c6 => ?_)
      · replace hf := (if_pos c6).symm.trans hf
        refine lv_bipush (v := -2) hx hb dX10_place_29 (by decide) ?_
        exact x_iret hx hb hr hlk hK hW (congrArg Prod.fst (Option.some.inj hf)) (congrArg (fun q => (Prod.snd q)) (Option.some.inj hf)) dX10_place_31
      · replace hf := (if_neg c6).symm.trans hf
        refine lv_iload_n hx hb dX10_place_19 rfl (lv_at hl 3 rfl) ?_
        refine lv_if_lt (tgt := 29) hx hb dX10_place_20 (by decide) (fun c7 => ?_) (fun c7 => ?_)
        · replace hf := (if_pos c7).symm.trans hf
          refine lv_bipush (v := -2) hx hb dX10_place_29 (by decide) ?_
          exact x_iret hx hb hr hlk hK hW (congrArg Prod.fst (Option.some.inj hf)) (congrArg (fun q => (Prod.snd q)) (Option.some.inj hf)) dX10_place_31
        · replace hf := (if_neg c7).symm.trans hf
          refine lv_iload_n hx hb dX10_place_23 rfl (lv_at hl 3 rfl) ?_
          refine lv_bipush (v := 64) hx hb dX10_place_24 (by decide) ?_
          refine lv_icmp_lt (tgt := 32) hx hb dX10_place_26 (by decide) (fun c8 => ?_) (fun c8 => ?_)
          · replace hf := (if_pos c8).symm.trans hf
            refine lv_aload_n hx hb dX10_place_32 rfl (lv_at hl 0 rfl) ?_
            refine x_get hx hb hts hown hK hW (hI6.2 0 (by decide)) rfl (hI6.1 0 _) rfl inX10 3 (by decide) t_306 rfl dX10_place_33 ?_
            refine x_get hx hb hts hown hK hW (hI0.2 0 0 (by decide)) rfl (hI0.1 0 0 _) rfl inX8 0 (by decide) t_285 rfl dX10_place_36 ?_
            refine x_get hx hb hts hown hK hW (hI0.2 1 0 (by decide)) rfl (hI0.1 1 0 _) rfl inX0 0 (by decide) t_261 rfl dX10_place_39 ?_
            refine lv_iload_n hx hb dX10_place_42 rfl (lv_at hl 1 rfl) ?_
            refine lv_iload_n hx hb dX10_place_43 rfl (lv_at hl 2 rfl) ?_
            refine lv_iload_n hx hb dX10_place_44 rfl (lv_at hl 3 rfl) ?_
            obtain ⟨r12, g10, hc9, hf⟩ := b2_some hf
            replace hf := st_some hf
            have hC13 := f7_tellPlace_ok l D cy ad ns M 0 2 (hI0.at_2) (M 0 2) a1 a2 a3 r12 g10 hc9
            rw [uI_id] at hC13
            refine x_vi (n := 3) (As := [.int a1, .int a2, .int a3]) (rest := []) hx hb hml hts hown hK hW hA hC13 (hI0.2 2 0 (by decide)) rfl (hI0.1 2 0 _) rfl rfl t_329 t_330 t_331 t_13 t_332 rfl (by decide +kernel) rfl rfl ⟨Nat.le_of_ble_eq_true rfl, Nat.le_of_ble_eq_true rfl⟩ hl.1 rfl (lv_room (Nat.le_of_ble_eq_true rfl)) dX10_place_45 ⟨(Nat.le_of_ble_eq_true rfl), (Nat.le_of_ble_eq_true rfl)⟩ (fun H locs hW => ?_)
            generalize (uI M 0 2 g10) = M11 at hf hW
            exact x_iret hx hb hr hlk hK hW (congrArg Prod.fst (Option.some.inj hf)) (congrArg (fun q => (Prod.snd q)) (Option.some.inj hf)) dX10_place_48
          · replace hf := (if_neg c8).symm.trans hf
            refine lv_bipush (v := -2) hx hb dX10_place_29 (by decide) ?_
            exact x_iret hx hb hr hlk hK hW (congrArg Prod.fst (Option.some.inj hf)) (congrArg (fun q => (Prod.snd q)) (Option.some.inj hf)) dX10_place_31
def f10_door (a1 : Int32) (a2 : Int32) (a3 : Int32) (M : Me) : Option (Int32 × Me) :=
  (if a1 < 0 then (some ((-2 : Int32), M)) else (if (1 : Int32) < a1 then (some ((-2 : Int32), M)) else ((f10_isKey a2).bind (fun r4 => (if r4 = 0 then (some ((-2 : Int32), M)) else (if a3 < 0 then (some ((-2 : Int32), M)) else (if a3 < (128 : Int32) then (b2 (f7_tellBit a1 a2 a3 (M 0 2)) (fun r12 g10 => (st (uI M 0 2 g10) (fun M11 => (some (r12, M11)))))) else (some ((-2 : Int32), M)))))))))
set_option maxHeartbeats 4000000 in
set_option maxRecDepth 100000 in
theorem f10_door_ok (l : Launch) (D : va_G) (cy : Nat → ClassId) (ad : Nat → Nat → Nat → Nat) (ns : List (Nat × Nat × Nat)) (hI0 : IsSt cy ad ns 0) (hI5 : IsPl cy ad ns 5) (hI6 : IsMain cy ad ns 6 0) (M : Me) (a1 : Int32) (a2 : Int32) (a3 : Int32) (r : Int32) (m2 : Me)  (hf : f10_door a1 a2 a3 M = some (r, m2)) : Ci l yX10_door (.code yX10_door cX10_door 4 (some .int) :: tk_tb) { frames := 3, cells := 0, slots := 0, locals := 69 } D cy ad ns [.ref (ad 6 0 0), .int a1, .int a2, .int a3] M r m2 := by
  refine Ci.of (by decide) (Nat.le_of_ble_eq_true rfl) ?_
  intro p e s m below meth c ls hE hW hl
  obtain ⟨hx, hb, hr, hml, hown, hts, hlk, hK⟩ := hE
  have hA : ∀ q : Nat, s.heap.size ≤ q → Aw ad ns s.heap.size q := fun q h => Or.inr h
  have hl : lv_has ls 4 [(0, .ref (ad 6 0 0)), (1, .int a1), (2, .int a2), (3, .int a3)] := hl
  unfold f10_door at hf
  refine lv_iload_n hx hb dX10_door_0 rfl (lv_at hl 1 rfl) ?_
  refine lv_if_lt (tgt := 27) hx hb dX10_door_1 (by decide) (fun c1 => ?_) (fun c1 => ?_)
  · replace hf := (if_pos c1).symm.trans hf
    refine lv_bipush (v := -2) hx hb dX10_door_27 (by decide) ?_
    exact x_iret hx hb hr hlk hK hW (congrArg Prod.fst (Option.some.inj hf)) (congrArg (fun q => (Prod.snd q)) (Option.some.inj hf)) dX10_door_29
  · replace hf := (if_neg c1).symm.trans hf
    refine lv_iload_n hx hb dX10_door_4 rfl (lv_at hl 1 rfl) ?_
    refine lv_iconst (v := 1) hx hb dX10_door_5 (by decide) ?_
    refine lv_icmp_gt (tgt := 27) hx hb dX10_door_6 (by decide) (fun c2 => ?_) (fun c2 => ?_)
    · replace hf := (if_pos c2).symm.trans hf
      refine lv_bipush (v := -2) hx hb dX10_door_27 (by decide) ?_
      exact x_iret hx hb hr hlk hK hW (congrArg Prod.fst (Option.some.inj hf)) (congrArg (fun q => (Prod.snd q)) (Option.some.inj hf)) dX10_door_29
    · replace hf := (if_neg c2).symm.trans hf
      refine lv_iload_n hx hb dX10_door_9 rfl (lv_at hl 2 rfl) ?_
      obtain ⟨r4, hc3, hf⟩ := bd_some hf
      have hC5 := f10_isKey_ok l D cy ad ns M a2 r4 hc3
      refine x_si (n := 1) (As := [.int a2]) (rest := []) hx hb hml hts hown hK hW hA hC5 t_326 t_327 t_1 t_328 rfl (by decide +kernel) rfl rfl ⟨Nat.le_of_ble_eq_true rfl, Nat.le_of_ble_eq_true rfl⟩ hl.1 rfl (lv_room (Nat.le_of_ble_eq_true rfl)) dX10_door_10 ⟨(Nat.le_of_ble_eq_true rfl), (Nat.le_of_ble_eq_true rfl)⟩ (fun H locs hW => ?_)
      refine lv_if_eq (tgt := 27) hx hb dX10_door_13 (by decide) (fun c6 => ?_) (fun c6 => ?_)
      · replace hf := (if_pos c6).symm.trans hf
        refine lv_bipush (v := -2) hx hb dX10_door_27 (by decide) ?_
        exact x_iret hx hb hr hlk hK hW (congrArg Prod.fst (Option.some.inj hf)) (congrArg (fun q => (Prod.snd q)) (Option.some.inj hf)) dX10_door_29
      · replace hf := (if_neg c6).symm.trans hf
        refine lv_iload_n hx hb dX10_door_16 rfl (lv_at hl 3 rfl) ?_
        refine lv_if_lt (tgt := 27) hx hb dX10_door_17 (by decide) (fun c7 => ?_) (fun c7 => ?_)
        · replace hf := (if_pos c7).symm.trans hf
          refine lv_bipush (v := -2) hx hb dX10_door_27 (by decide) ?_
          exact x_iret hx hb hr hlk hK hW (congrArg Prod.fst (Option.some.inj hf)) (congrArg (fun q => (Prod.snd q)) (Option.some.inj hf)) dX10_door_29
        · replace hf := (if_neg c7).symm.trans hf
          refine lv_iload_n hx hb dX10_door_20 rfl (lv_at hl 3 rfl) ?_
          refine lv_sipush (v := 128) hx hb dX10_door_21 (by decide) ?_
          refine lv_icmp_lt (tgt := 30) hx hb dX10_door_24 (by decide) (fun c8 => ?_) (fun c8 => ?_)
          · replace hf := (if_pos c8).symm.trans hf
            refine lv_aload_n hx hb dX10_door_30 rfl (lv_at hl 0 rfl) ?_
            refine x_get hx hb hts hown hK hW (hI6.2 0 (by decide)) rfl (hI6.1 0 _) rfl inX10 3 (by decide) t_306 rfl dX10_door_31 ?_
            refine x_get hx hb hts hown hK hW (hI0.2 0 0 (by decide)) rfl (hI0.1 0 0 _) rfl inX8 0 (by decide) t_285 rfl dX10_door_34 ?_
            refine x_get hx hb hts hown hK hW (hI0.2 1 0 (by decide)) rfl (hI0.1 1 0 _) rfl inX0 0 (by decide) t_261 rfl dX10_door_37 ?_
            refine lv_iload_n hx hb dX10_door_40 rfl (lv_at hl 1 rfl) ?_
            refine lv_iload_n hx hb dX10_door_41 rfl (lv_at hl 2 rfl) ?_
            refine lv_iload_n hx hb dX10_door_42 rfl (lv_at hl 3 rfl) ?_
            obtain ⟨r12, g10, hc9, hf⟩ := b2_some hf
            replace hf := st_some hf
            have hC13 := f7_tellBit_ok l D cy ad ns M 0 2 (hI0.at_2) (M 0 2) a1 a2 a3 r12 g10 hc9
            rw [uI_id] at hC13
            refine x_vi (n := 3) (As := [.int a1, .int a2, .int a3]) (rest := []) hx hb hml hts hown hK hW hA hC13 (hI0.2 2 0 (by decide)) rfl (hI0.1 2 0 _) rfl rfl t_342 t_343 t_344 t_13 t_345 rfl (by decide +kernel) rfl rfl ⟨Nat.le_of_ble_eq_true rfl, Nat.le_of_ble_eq_true rfl⟩ hl.1 rfl (lv_room (Nat.le_of_ble_eq_true rfl)) dX10_door_43 ⟨(Nat.le_of_ble_eq_true rfl), (Nat.le_of_ble_eq_true rfl)⟩ (fun H locs hW => ?_)
            generalize (uI M 0 2 g10) = M11 at hf hW
            exact x_iret hx hb hr hlk hK hW (congrArg Prod.fst (Option.some.inj hf)) (congrArg (fun q => (Prod.snd q)) (Option.some.inj hf)) dX10_door_46
          · replace hf := (if_neg c8).symm.trans hf
            refine lv_bipush (v := -2) hx hb dX10_door_27 (by decide) ?_
            exact x_iret hx hb hr hlk hK hW (congrArg Prod.fst (Option.some.inj hf)) (congrArg (fun q => (Prod.snd q)) (Option.some.inj hf)) dX10_door_29
def f10_size (a1 : Int32) (a2 : Int32) (M : Me) : Option (Int32 × Me) :=
  ((f10_isKey a1).bind (fun r2 => (if r2 = 0 then (some ((-2 : Int32), M)) else (if a2 < (1 : Int32) then (some ((-2 : Int32), M)) else (if a2 ≤ (20 : Int32) then (rd 100 (M 0 3 4) a1 (fun v8 => (if v8 = (-1 : Int32) then (rd 100 (M 0 3 5) a1 (fun v11 => (wr 100 a1 (uC M 0 3 5 (upd (M 0 3 5) (a1).toNatClampNeg a2)) (fun M13 => (some (v11, M13)))))) else (some ((-3 : Int32), M))))) else (some ((-2 : Int32), M)))))))
set_option maxHeartbeats 4000000 in
set_option maxRecDepth 100000 in
theorem f10_size_ok (l : Launch) (D : va_G) (cy : Nat → ClassId) (ad : Nat → Nat → Nat → Nat) (ns : List (Nat × Nat × Nat)) (hI0 : IsSt cy ad ns 0) (hI5 : IsPl cy ad ns 5) (hI6 : IsMain cy ad ns 6 0) (M : Me) (a1 : Int32) (a2 : Int32) (r : Int32) (m2 : Me)  (hf : f10_size a1 a2 M = some (r, m2)) : Ci l yX10_size (.code yX10_size cX10_size 5 (some .int) :: tk_tb) { frames := 1, cells := 0, slots := 0, locals := 20 } D cy ad ns [.ref (ad 6 0 0), .int a1, .int a2] M r m2 := by
  refine Ci.of (by decide) (Nat.le_of_ble_eq_true rfl) ?_
  intro p e s m below meth c ls hE hW hl
  obtain ⟨hx, hb, hr, hml, hown, hts, hlk, hK⟩ := hE
  have hA : ∀ q : Nat, s.heap.size ≤ q → Aw ad ns s.heap.size q := fun q h => Or.inr h
  have hl : lv_has ls 5 [(0, .ref (ad 6 0 0)), (1, .int a1), (2, .int a2)] := hl
  unfold f10_size at hf
  refine lv_iload_n hx hb dX10_size_0 rfl (lv_at hl 1 rfl) ?_
  obtain ⟨r2, hc1, hf⟩ := bd_some hf
  have hC3 := f10_isKey_ok l D cy ad ns M a1 r2 hc1
  refine x_si (n := 1) (As := [.int a1]) (rest := []) hx hb hml hts hown hK hW hA hC3 t_326 t_327 t_1 t_328 rfl (by decide +kernel) rfl rfl ⟨Nat.le_of_ble_eq_true rfl, Nat.le_of_ble_eq_true rfl⟩ hl.1 rfl (lv_room (Nat.le_of_ble_eq_true rfl)) dX10_size_1 ⟨(Nat.le_of_ble_eq_true rfl), (Nat.le_of_ble_eq_true rfl)⟩ (fun H locs hW => ?_)
  refine lv_if_eq (tgt := 18) hx hb dX10_size_4 (by decide) (fun c4 => ?_) (fun c4 => ?_)
  · replace hf := (if_pos c4).symm.trans hf
    refine lv_bipush (v := -2) hx hb dX10_size_18 (by decide) ?_
    exact x_iret hx hb hr hlk hK hW (congrArg Prod.fst (Option.some.inj hf)) (congrArg (fun q => (Prod.snd q)) (Option.some.inj hf)) dX10_size_20
  · replace hf := (if_neg c4).symm.trans hf
    refine lv_iload_n hx hb dX10_size_7 rfl (lv_at hl 2 rfl) ?_
    refine lv_iconst (v := 1) hx hb dX10_size_8 (by decide) ?_
    refine lv_icmp_lt (tgt := 18) hx hb dX10_size_9 (by decide) (fun c5 => ?_) (fun c5 => ?_)
    · replace hf := (if_pos c5).symm.trans hf
      refine lv_bipush (v := -2) hx hb dX10_size_18 (by decide) ?_
      exact x_iret hx hb hr hlk hK hW (congrArg Prod.fst (Option.some.inj hf)) (congrArg (fun q => (Prod.snd q)) (Option.some.inj hf)) dX10_size_20
    · replace hf := (if_neg c5).symm.trans hf
      refine lv_iload_n hx hb dX10_size_12 rfl (lv_at hl 2 rfl) ?_
      refine lv_bipush (v := 20) hx hb dX10_size_13 (by decide) ?_
      refine lv_icmp_le (tgt := 21) hx hb dX10_size_15 (by decide) (fun c6 => ?_) (fun c6 => ?_)
      · replace hf := (if_pos c6).symm.trans hf
        refine lv_aload_n hx hb dX10_size_21 rfl (lv_at hl 0 rfl) ?_
        refine x_get hx hb hts hown hK hW (hI6.2 0 (by decide)) rfl (hI6.1 0 _) rfl inX10 3 (by decide) t_306 rfl dX10_size_22 ?_
        refine x_get hx hb hts hown hK hW (hI0.2 0 0 (by decide)) rfl (hI0.1 0 0 _) rfl inX8 0 (by decide) t_285 rfl dX10_size_25 ?_
        refine x_get hx hb hts hown hK hW (hI0.2 1 0 (by decide)) rfl (hI0.1 1 0 _) rfl inX0 1 (by decide) t_264 rfl dX10_size_28 ?_
        refine lv_astore_n (lv' := [(3, .ref (ad 0 3 0)), (0, .ref (ad 6 0 0)), (1, .int a1), (2, .int a2)]) hx hb dX10_size_31 rfl hl (by decide) rfl (fun ls hl => ?_)
        refine lv_aload_n hx hb dX10_size_32 rfl (lv_at hl 0 rfl) ?_
        refine x_get hx hb hts hown hK hW (hI0.2 3 0 (by decide)) rfl (hI0.1 3 0 _) rfl inX5 3 (by decide) t_106 rfl dX10_size_33 ?_
        refine lv_iload_n hx hb dX10_size_36 rfl (lv_at hl 2 rfl) ?_
        obtain ⟨hi7, hf⟩ := rd_some hf
        refine x_iald hx hb hK hW (hI0.2 3 4 (by decide)) rfl (hI0.1 3 4 _) hi7 dX10_size_37 ?_
        generalize M 0 3 4 (a1).toNatClampNeg = v8 at hf ⊢
        refine lv_iconst (v := -1) hx hb dX10_size_38 (by decide) ?_
        refine lv_icmp_eq (tgt := 45) hx hb dX10_size_39 (by decide) (fun c9 => ?_) (fun c9 => ?_)
        · replace hf := (if_pos c9).symm.trans hf
          refine lv_aload_n hx hb dX10_size_45 rfl (lv_at hl 0 rfl) ?_
          refine x_get hx hb hts hown hK hW (hI0.2 3 0 (by decide)) rfl (hI0.1 3 0 _) rfl inX5 4 (by decide) t_109 rfl dX10_size_46 ?_
          refine lv_iload_n hx hb dX10_size_49 rfl (lv_at hl 2 rfl) ?_
          obtain ⟨hi10, hf⟩ := rd_some hf
          refine x_iald hx hb hK hW (hI0.2 3 5 (by decide)) rfl (hI0.1 3 5 _) hi10 dX10_size_50 ?_
          generalize M 0 3 5 (a1).toNatClampNeg = v11 at hf ⊢
          refine lv_istore (lv' := [(4, .int v11), (3, .ref (ad 0 3 0)), (0, .ref (ad 6 0 0)), (1, .int a1), (2, .int a2)]) hx hb dX10_size_51 hl (by decide) rfl (fun ls hl => ?_)
          refine lv_aload_n hx hb dX10_size_53 rfl (lv_at hl 1 rfl) ?_
          refine x_get hx hb hts hown hK hW (hI0.2 3 0 (by decide)) rfl (hI0.1 3 0 _) rfl inX5 4 (by decide) t_109 rfl dX10_size_54 ?_
          refine lv_iload_n hx hb dX10_size_57 rfl (lv_at hl 3 rfl) ?_
          refine lv_iload_n hx hb dX10_size_58 rfl (lv_at hl 4 rfl) ?_
          obtain ⟨hi12, hf⟩ := wr_some hf
          refine x_iast hx hb hK hW (hI0.2 3 5 (by decide)) rfl (fun _ => (hI0.1 3 5 _)) hi12 rfl dX10_size_59 (fun H locs hW => ?_)
          generalize (uC M 0 3 5 (upd (M 0 3 5) (a1).toNatClampNeg a2)) = M13 at hf hW
          refine lv_iload hx hb dX10_size_60 (lv_at hl 0 rfl) ?_
          exact x_iret hx hb hr hlk hK hW (congrArg Prod.fst (Option.some.inj hf)) (congrArg (fun q => (Prod.snd q)) (Option.some.inj hf)) dX10_size_62
        · replace hf := (if_neg c9).symm.trans hf
          refine lv_bipush (v := -3) hx hb dX10_size_42 (by decide) ?_
          exact x_iret hx hb hr hlk hK hW (congrArg Prod.fst (Option.some.inj hf)) (congrArg (fun q => (Prod.snd q)) (Option.some.inj hf)) dX10_size_44
      · replace hf := (if_neg c6).symm.trans hf
        refine lv_bipush (v := -2) hx hb dX10_size_18 (by decide) ?_
        exact x_iret hx hb hr hlk hK hW (congrArg Prod.fst (Option.some.inj hf)) (congrArg (fun q => (Prod.snd q)) (Option.some.inj hf)) dX10_size_20
def f10_access (a1 : Int32) (M : Me) : Option (Int32 × Me) :=
  ((f10_isKey a1).bind (fun r2 => (if r2 = 0 then (some ((-2 : Int32), M)) else (b2 (f8_visit a1 (M 0)) (fun r8 S6 => (st (va_up M 0 S6) (fun M7 => (some (r8, M7)))))))))
set_option maxHeartbeats 4000000 in
set_option maxRecDepth 100000 in
theorem f10_access_ok (l : Launch) (D : va_G) (cy : Nat → ClassId) (ad : Nat → Nat → Nat → Nat) (ns : List (Nat × Nat × Nat)) (hI0 : IsSt cy ad ns 0) (hI5 : IsPl cy ad ns 5) (hI6 : IsMain cy ad ns 6 0) (M : Me) (a1 : Int32) (r : Int32) (m2 : Me)  (hf : f10_access a1 M = some (r, m2)) : Ci l yX10_access (.code yX10_access cX10_access 2 (some .int) :: tk_tb) { frames := 6, cells := 0, slots := 0, locals := 142 } D cy ad ns [.ref (ad 6 0 0), .int a1] M r m2 := by
  refine Ci.of (by decide) (Nat.le_of_ble_eq_true rfl) ?_
  intro p e s m below meth c ls hE hW hl
  obtain ⟨hx, hb, hr, hml, hown, hts, hlk, hK⟩ := hE
  have hA : ∀ q : Nat, s.heap.size ≤ q → Aw ad ns s.heap.size q := fun q h => Or.inr h
  have hl : lv_has ls 2 [(0, .ref (ad 6 0 0)), (1, .int a1)] := hl
  unfold f10_access at hf
  refine lv_iload_n hx hb dX10_access_0 rfl (lv_at hl 1 rfl) ?_
  obtain ⟨r2, hc1, hf⟩ := bd_some hf
  have hC3 := f10_isKey_ok l D cy ad ns M a1 r2 hc1
  refine x_si (n := 1) (As := [.int a1]) (rest := []) hx hb hml hts hown hK hW hA hC3 t_326 t_327 t_1 t_328 rfl (by decide +kernel) rfl rfl ⟨Nat.le_of_ble_eq_true rfl, Nat.le_of_ble_eq_true rfl⟩ hl.1 rfl (lv_room (Nat.le_of_ble_eq_true rfl)) dX10_access_1 ⟨(Nat.le_of_ble_eq_true rfl), (Nat.le_of_ble_eq_true rfl)⟩ (fun H locs hW => ?_)
  refine lv_if_eq (tgt := 18) hx hb dX10_access_4 (by decide) (fun c4 => ?_) (fun c4 => ?_)
  · replace hf := (if_pos c4).symm.trans hf
    refine lv_bipush (v := -2) hx hb dX10_access_18 (by decide) ?_
    exact x_iret hx hb hr hlk hK hW (congrArg Prod.fst (Option.some.inj hf)) (congrArg (fun q => (Prod.snd q)) (Option.some.inj hf)) dX10_access_20
  · replace hf := (if_neg c4).symm.trans hf
    refine lv_aload_n hx hb dX10_access_7 rfl (lv_at hl 0 rfl) ?_
    refine x_get hx hb hts hown hK hW (hI6.2 0 (by decide)) rfl (hI6.1 0 _) rfl inX10 3 (by decide) t_306 rfl dX10_access_8 ?_
    refine lv_iload_n hx hb dX10_access_11 rfl (lv_at hl 1 rfl) ?_
    obtain ⟨r8, S6, hc5, hf⟩ := b2_some hf
    replace hf := st_some hf
    have hC9 := f8_visit_ok l D cy ad ns M 0 hI0 (M 0) a1 r8 S6 hc5
    rw [up_id] at hC9
    refine x_vi (n := 1) (As := [.int a1]) (rest := []) hx hb hml hts hown hK hW hA hC9 (hI0.2 0 0 (by decide)) rfl (hI0.1 0 0 _) rfl rfl t_394 t_395 t_396 t_9 t_397 rfl (by decide +kernel) rfl rfl ⟨Nat.le_of_ble_eq_true rfl, Nat.le_of_ble_eq_true rfl⟩ hl.1 rfl (lv_room (Nat.le_of_ble_eq_true rfl)) dX10_access_12 ⟨(Nat.le_of_ble_eq_true rfl), (Nat.le_of_ble_eq_true rfl)⟩ (fun H locs hW => ?_)
    generalize (va_up M 0 S6) = M7 at hf hW
    refine lv_goto (tgt := 20) hx hb dX10_access_15 (by decide) ?_
    exact x_iret hx hb hr hlk hK hW (congrArg Prod.fst (Option.some.inj hf)) (congrArg (fun q => (Prod.snd q)) (Option.some.inj hf)) dX10_access_20
def f10_run_j59 (rec37 : Int32 → Int32 → Int32 → Int32 → Int32 → Me → Option (Int32 × Me)) (w2 : Int32) (w3 : Int32) (w4 : Int32) (w5 : Int32) (w6 : Int32) (M : Me) : Option (Int32 × Me) :=
  (rec37 w2 w3 w4 ((w5 + w2) - (w5 + w2) / (100 : Int32) * (100 : Int32)) (w6 + (1 : Int32)) M)
def f10_run_b37 (rec37 : Int32 → Int32 → Int32 → Int32 → Int32 → Me → Option (Int32 × Me)) (w2 : Int32) (w3 : Int32) (w4 : Int32) (w5 : Int32) (w6 : Int32) (M : Me) : Option (Int32 × Me) :=
  (if w3 ≤ w6 then (some (w4, M)) else (b2 (f8_visit w5 (M 0)) (fun r15 S13 => (st (va_up M 0 S13) (fun M14 => (if r15 < (2 : Int32) then (f10_run_j59 rec37 w2 w3 w4 w5 w6 M14) else (f10_run_j59 rec37 w2 w3 (w4 + (1 : Int32)) w5 w6 M14)))))))
def f10_run_l37 : Nat → Int32 → Int32 → Int32 → Int32 → Int32 → Me → Option (Int32 × Me)
  | 0 => fun _ _ _ _ _ _ => none
  | k + 1 => f10_run_b37 (f10_run_l37 k)
def f10_run (a1 : Int32) (a2 : Int32) (a3 : Int32) (M : Me) : Option (Int32 × Me) :=
  ((f10_isKey a1).bind (fun r2 => (if r2 = 0 then (some ((-2 : Int32), M)) else ((f10_isKey a2).bind (fun r6 => (if r6 = 0 then (some ((-2 : Int32), M)) else (if a3 < (1 : Int32) then (some ((-2 : Int32), M)) else (if a3 ≤ (100 : Int32) then (f10_run_l37 NF a2 a3 (0 : Int32) a1 (0 : Int32) M) else (some ((-2 : Int32), M))))))))))
set_option maxHeartbeats 4000000 in
set_option maxRecDepth 100000 in
theorem f10_run_ok (l : Launch) (D : va_G) (cy : Nat → ClassId) (ad : Nat → Nat → Nat → Nat) (ns : List (Nat × Nat × Nat)) (hI0 : IsSt cy ad ns 0) (hI5 : IsPl cy ad ns 5) (hI6 : IsMain cy ad ns 6 0) (M : Me) (a1 : Int32) (a2 : Int32) (a3 : Int32) (r : Int32) (m2 : Me)  (hf : f10_run a1 a2 a3 M = some (r, m2)) : Ci l yX10_run (.code yX10_run cX10_run 7 (some .int) :: tk_tb) { frames := 6, cells := 0, slots := 0, locals := 142 } D cy ad ns [.ref (ad 6 0 0), .int a1, .int a2, .int a3] M r m2 := by
  refine Ci.of (by decide) (Nat.le_of_ble_eq_true rfl) ?_
  intro p e s m below meth c ls hE hW hl
  obtain ⟨hx, hb, hr, hml, hown, hts, hlk, hK⟩ := hE
  have hA : ∀ q : Nat, s.heap.size ≤ q → Aw ad ns s.heap.size q := fun q h => Or.inr h
  have hl : lv_has ls 7 [(0, .ref (ad 6 0 0)), (1, .int a1), (2, .int a2), (3, .int a3)] := hl
  unfold f10_run at hf
  refine lv_iload_n hx hb dX10_run_0 rfl (lv_at hl 1 rfl) ?_
  obtain ⟨r2, hc1, hf⟩ := bd_some hf
  have hC3 := f10_isKey_ok l D cy ad ns M a1 r2 hc1
  refine x_si (n := 1) (As := [.int a1]) (rest := []) hx hb hml hts hown hK hW hA hC3 t_326 t_327 t_1 t_328 rfl (by decide +kernel) rfl rfl ⟨Nat.le_of_ble_eq_true rfl, Nat.le_of_ble_eq_true rfl⟩ hl.1 rfl (lv_room (Nat.le_of_ble_eq_true rfl)) dX10_run_1 ⟨(Nat.le_of_ble_eq_true rfl), (Nat.le_of_ble_eq_true rfl)⟩ (fun H locs hW => ?_)
  refine lv_if_eq (tgt := 25) hx hb dX10_run_4 (by decide) (fun c4 => ?_) (fun c4 => ?_)
  · replace hf := (if_pos c4).symm.trans hf
    refine lv_bipush (v := -2) hx hb dX10_run_25 (by decide) ?_
    exact x_iret hx hb hr hlk hK hW (congrArg Prod.fst (Option.some.inj hf)) (congrArg (fun q => (Prod.snd q)) (Option.some.inj hf)) dX10_run_27
  · replace hf := (if_neg c4).symm.trans hf
    refine lv_iload_n hx hb dX10_run_7 rfl (lv_at hl 2 rfl) ?_
    obtain ⟨r6, hc5, hf⟩ := bd_some hf
    have hC7 := f10_isKey_ok l D cy ad ns M a2 r6 hc5
    refine x_si (n := 1) (As := [.int a2]) (rest := []) hx hb hml hts hown hK hW hA hC7 t_326 t_327 t_1 t_328 rfl (by decide +kernel) rfl rfl ⟨Nat.le_of_ble_eq_true rfl, Nat.le_of_ble_eq_true rfl⟩ hl.1 rfl (lv_room (Nat.le_of_ble_eq_true rfl)) dX10_run_8 ⟨(Nat.le_of_ble_eq_true rfl), (Nat.le_of_ble_eq_true rfl)⟩ (fun H locs hW => ?_)
    refine lv_if_eq (tgt := 25) hx hb dX10_run_11 (by decide) (fun c8 => ?_) (fun c8 => ?_)
    · replace hf := (if_pos c8).symm.trans hf
      refine lv_bipush (v := -2) hx hb dX10_run_25 (by decide) ?_
      exact x_iret hx hb hr hlk hK hW (congrArg Prod.fst (Option.some.inj hf)) (congrArg (fun q => (Prod.snd q)) (Option.some.inj hf)) dX10_run_27
    · replace hf := (if_neg c8).symm.trans hf
      refine lv_iload_n hx hb dX10_run_14 rfl (lv_at hl 3 rfl) ?_
      refine lv_iconst (v := 1) hx hb dX10_run_15 (by decide) ?_
      refine lv_icmp_lt (tgt := 25) hx hb dX10_run_16 (by decide) (fun c9 => ?_) (fun c9 => ?_)
      · replace hf := (if_pos c9).symm.trans hf
        refine lv_bipush (v := -2) hx hb dX10_run_25 (by decide) ?_
        exact x_iret hx hb hr hlk hK hW (congrArg Prod.fst (Option.some.inj hf)) (congrArg (fun q => (Prod.snd q)) (Option.some.inj hf)) dX10_run_27
      · replace hf := (if_neg c9).symm.trans hf
        refine lv_iload_n hx hb dX10_run_19 rfl (lv_at hl 3 rfl) ?_
        refine lv_bipush (v := 100) hx hb dX10_run_20 (by decide) ?_
        refine lv_icmp_le (tgt := 28) hx hb dX10_run_22 (by decide) (fun c10 => ?_) (fun c10 => ?_)
        · replace hf := (if_pos c10).symm.trans hf
          refine lv_iconst (v := 0) hx hb dX10_run_28 (by decide) ?_
          refine lv_istore (lv' := [(4, .int (0 : Int32)), (0, .ref (ad 6 0 0)), (1, .int a1), (2, .int a2), (3, .int a3)]) hx hb dX10_run_29 hl (by decide) rfl (fun ls hl => ?_)
          refine lv_iload_n hx hb dX10_run_31 rfl (lv_at hl 2 rfl) ?_
          refine lv_istore (lv' := [(5, .int a1), (4, .int (0 : Int32)), (0, .ref (ad 6 0 0)), (1, .int a1), (2, .int a2), (3, .int a3)]) hx hb dX10_run_32 hl (by decide) rfl (fun ls hl => ?_)
          refine lv_iconst (v := 0) hx hb dX10_run_34 (by decide) ?_
          refine lv_istore (lv' := [(6, .int (0 : Int32)), (5, .int a1), (4, .int (0 : Int32)), (0, .ref (ad 6 0 0)), (1, .int a1), (2, .int a2), (3, .int a3)]) hx hb dX10_run_35 hl (by decide) rfl (fun ls hl => ?_)
          have L37 : ∀ (k : Nat) (w2 : Int32) (w3 : Int32) (w4 : Int32) (w5 : Int32) (w6 : Int32) (M : Me) (H : Heap) (locs : List Loc) (ls : Array Slot), f10_run_l37 k w2 w3 w4 w5 w6 M = some (r, m2) → Wl D cy ad ns (Aw ad ns s.heap.size) s.heap M H locs → lv_has ls 7 [(0, .ref (ad 6 0 0)), (2, .int w2), (3, .int w3), (4, .int w4), (5, .int w5), (6, .int w6)] → W p l e { frames := 6, cells := 0, slots := 0, locals := 142 } s m ([.ref (ad 6 0 0), .int a1, .int a2, .int a3] : List Value).toArray below meth c H locs 0 0 (QI below D cy ad ns [.ref (ad 6 0 0), .int a1, .int a2, .int a3] s r m2) (F0 m 37 ls []) := by
            intro k
            induction k with
            | zero => intro w2 w3 w4 w5 w6 M H locs ls hf; exact absurd hf (by simp [f10_run_l37])
            | succ k37 ih37 =>
              intro w2 w3 w4 w5 w6 M H locs ls hf hW hl
              have hf : f10_run_b37 (f10_run_l37 k37) w2 w3 w4 w5 w6 M = some (r, m2) := hf
              unfold f10_run_b37 at hf
              have J59 : ∀ (w2 : Int32) (w3 : Int32) (w4 : Int32) (w5 : Int32) (w6 : Int32) (M : Me) (H : Heap) (locs : List Loc) (ls : Array Slot), f10_run_j59 (f10_run_l37 k37) w2 w3 w4 w5 w6 M = some (r, m2) → Wl D cy ad ns (Aw ad ns s.heap.size) s.heap M H locs → lv_has ls 7 [(0, .ref (ad 6 0 0)), (2, .int w2), (3, .int w3), (4, .int w4), (5, .int w5), (6, .int w6)] → W p l e { frames := 6, cells := 0, slots := 0, locals := 142 } s m ([.ref (ad 6 0 0), .int a1, .int a2, .int a3] : List Value).toArray below meth c H locs 0 0 (QI below D cy ad ns [.ref (ad 6 0 0), .int a1, .int a2, .int a3] s r m2) (F0 m 59 ls []) := by
                intro w2 w3 w4 w5 w6 M H locs ls hf hW hl
                unfold f10_run_j59 at hf
                refine lv_iload hx hb dX10_run_59 (lv_at hl 4 rfl) ?_
                refine lv_iload_n hx hb dX10_run_61 rfl (lv_at hl 1 rfl) ?_
                refine lv_iadd hx hb dX10_run_62 ?_
                refine lv_bipush (v := 100) hx hb dX10_run_63 (by decide) ?_
                refine lv_irem hx hb dX10_run_65 (by decide) ?_
                refine lv_istore (lv' := [(5, .int ((w5 + w2) - (w5 + w2) / (100 : Int32) * (100 : Int32))), (0, .ref (ad 6 0 0)), (2, .int w2), (3, .int w3), (4, .int w4), (6, .int w6)]) hx hb dX10_run_66 hl (by decide) rfl (fun ls hl => ?_)
                refine lv_iinc (v := (w6 + (1 : Int32))) (lv' := [(6, .int (w6 + (1 : Int32))), (5, .int ((w5 + w2) - (w5 + w2) / (100 : Int32) * (100 : Int32))), (0, .ref (ad 6 0 0)), (2, .int w2), (3, .int w3), (4, .int w4)]) hx hb dX10_run_68 hl (k := 5) rfl (by first | rfl | decide) (by decide) rfl (fun ls hl => ?_)
                refine lv_goto (tgt := 37) hx hb dX10_run_71 (by decide) ?_
                exact ih37 _ _ _ _ _ _ _ _ _ hf hW (lv_sub hl [2, 3, 4, 5, 1, 0] rfl)
              refine lv_iload hx hb dX10_run_37 (lv_at hl 5 rfl) ?_
              refine lv_iload_n hx hb dX10_run_39 rfl (lv_at hl 2 rfl) ?_
              refine lv_icmp_ge (tgt := 74) hx hb dX10_run_40 (by decide) (fun c11 => ?_) (fun c11 => ?_)
              · replace hf := (if_pos c11).symm.trans hf
                refine lv_iload hx hb dX10_run_74 (lv_at hl 3 rfl) ?_
                exact x_iret hx hb hr hlk hK hW (congrArg Prod.fst (Option.some.inj hf)) (congrArg (fun q => (Prod.snd q)) (Option.some.inj hf)) dX10_run_76
              · replace hf := (if_neg c11).symm.trans hf
                refine lv_aload_n hx hb dX10_run_43 rfl (lv_at hl 0 rfl) ?_
                refine x_get hx hb hts hown hK hW (hI6.2 0 (by decide)) rfl (hI6.1 0 _) rfl inX10 3 (by decide) t_306 rfl dX10_run_44 ?_
                refine lv_iload hx hb dX10_run_47 (lv_at hl 4 rfl) ?_
                obtain ⟨r15, S13, hc12, hf⟩ := b2_some hf
                replace hf := st_some hf
                have hC16 := f8_visit_ok l D cy ad ns M 0 hI0 (M 0) w5 r15 S13 hc12
                rw [up_id] at hC16
                refine x_vi (n := 1) (As := [.int w5]) (rest := []) hx hb hml hts hown hK hW hA hC16 (hI0.2 0 0 (by decide)) rfl (hI0.1 0 0 _) rfl rfl t_394 t_395 t_396 t_9 t_397 rfl (by decide +kernel) rfl rfl ⟨Nat.le_of_ble_eq_true rfl, Nat.le_of_ble_eq_true rfl⟩ hl.1 rfl (lv_room (Nat.le_of_ble_eq_true rfl)) dX10_run_49 ⟨(Nat.le_of_ble_eq_true rfl), (Nat.le_of_ble_eq_true rfl)⟩ (fun H locs hW => ?_)
                generalize (va_up M 0 S13) = M14 at hf hW
                refine lv_iconst (v := 2) hx hb dX10_run_52 (by decide) ?_
                refine lv_icmp_lt (tgt := 59) hx hb dX10_run_53 (by decide) (fun c17 => ?_) (fun c17 => ?_)
                · replace hf := (if_pos c17).symm.trans hf
                  exact J59 _ _ _ _ _ _ _ _ _ hf hW (lv_sub hl [0, 1, 2, 3, 4, 5] rfl)
                · replace hf := (if_neg c17).symm.trans hf
                  refine lv_iinc (v := (w4 + (1 : Int32))) (lv' := [(4, .int (w4 + (1 : Int32))), (0, .ref (ad 6 0 0)), (2, .int w2), (3, .int w3), (5, .int w5), (6, .int w6)]) hx hb dX10_run_56 hl (k := 3) rfl (by first | rfl | decide) (by decide) rfl (fun ls hl => ?_)
                  exact J59 _ _ _ _ _ _ _ _ _ hf hW (lv_sub hl [1, 2, 3, 0, 4, 5] rfl)
          exact L37 NF _ _ _ _ _ _ _ _ _ hf hW (lv_sub hl [3, 5, 6, 2, 1, 0] rfl)
        · replace hf := (if_neg c10).symm.trans hf
          refine lv_bipush (v := -2) hx hb dX10_run_25 (by decide) ?_
          exact x_iret hx hb hr hlk hK hW (congrArg Prod.fst (Option.some.inj hf)) (congrArg (fun q => (Prod.snd q)) (Option.some.inj hf)) dX10_run_27
def f10_add (a1 : Int32) (M : Me) : Option (Int32 × Me) :=
  ((f10_isKey a1).bind (fun r2 => (if r2 = 0 then (some ((-2 : Int32), M)) else ((f7_put a1 (M 0 2)).bind (fun g6 => (st (uI M 0 2 g6) (fun M7 => ((f7_guess (M7 0 2) a1).bind (fun r10 => (some (r10, M7)))))))))))
set_option maxHeartbeats 4000000 in
set_option maxRecDepth 100000 in
theorem f10_add_ok (l : Launch) (D : va_G) (cy : Nat → ClassId) (ad : Nat → Nat → Nat → Nat) (ns : List (Nat × Nat × Nat)) (hI0 : IsSt cy ad ns 0) (hI5 : IsPl cy ad ns 5) (hI6 : IsMain cy ad ns 6 0) (M : Me) (a1 : Int32) (r : Int32) (m2 : Me)  (hf : f10_add a1 M = some (r, m2)) : Ci l yX10_add (.code yX10_add cX10_add 2 (some .int) :: tk_tb) { frames := 3, cells := 0, slots := 0, locals := 70 } D cy ad ns [.ref (ad 6 0 0), .int a1] M r m2 := by
  refine Ci.of (by decide) (Nat.le_of_ble_eq_true rfl) ?_
  intro p e s m below meth c ls hE hW hl
  obtain ⟨hx, hb, hr, hml, hown, hts, hlk, hK⟩ := hE
  have hA : ∀ q : Nat, s.heap.size ≤ q → Aw ad ns s.heap.size q := fun q h => Or.inr h
  have hl : lv_has ls 2 [(0, .ref (ad 6 0 0)), (1, .int a1)] := hl
  unfold f10_add at hf
  refine lv_iload_n hx hb dX10_add_0 rfl (lv_at hl 1 rfl) ?_
  obtain ⟨r2, hc1, hf⟩ := bd_some hf
  have hC3 := f10_isKey_ok l D cy ad ns M a1 r2 hc1
  refine x_si (n := 1) (As := [.int a1]) (rest := []) hx hb hml hts hown hK hW hA hC3 t_326 t_327 t_1 t_328 rfl (by decide +kernel) rfl rfl ⟨Nat.le_of_ble_eq_true rfl, Nat.le_of_ble_eq_true rfl⟩ hl.1 rfl (lv_room (Nat.le_of_ble_eq_true rfl)) dX10_add_1 ⟨(Nat.le_of_ble_eq_true rfl), (Nat.le_of_ble_eq_true rfl)⟩ (fun H locs hW => ?_)
  refine lv_if_ne (tgt := 10) hx hb dX10_add_4 (by decide) (fun c4 => ?_) (fun c4 => ?_)
  · replace hf := (if_neg c4).symm.trans hf
    refine lv_aload_n hx hb dX10_add_10 rfl (lv_at hl 0 rfl) ?_
    refine x_get hx hb hts hown hK hW (hI6.2 0 (by decide)) rfl (hI6.1 0 _) rfl inX10 3 (by decide) t_306 rfl dX10_add_11 ?_
    refine x_get hx hb hts hown hK hW (hI0.2 0 0 (by decide)) rfl (hI0.1 0 0 _) rfl inX8 0 (by decide) t_285 rfl dX10_add_14 ?_
    refine x_get hx hb hts hown hK hW (hI0.2 1 0 (by decide)) rfl (hI0.1 1 0 _) rfl inX0 0 (by decide) t_261 rfl dX10_add_17 ?_
    refine lv_iload_n hx hb dX10_add_20 rfl (lv_at hl 1 rfl) ?_
    obtain ⟨g6, hc5, hf⟩ := bd_some hf
    replace hf := st_some hf
    have hC8 := f7_put_ok l D cy ad ns M 0 2 (hI0.at_2) (M 0 2) a1 g6 hc5
    rw [uI_id] at hC8
    refine x_vv (n := 1) (As := [.int a1]) (rest := []) hx hb hml hts hown hK hW hA hC8 (hI0.2 2 0 (by decide)) rfl (hI0.1 2 0 _) rfl rfl t_510 t_403 t_404 t_13 t_405 rfl (by decide +kernel) rfl rfl ⟨Nat.le_of_ble_eq_true rfl, Nat.le_of_ble_eq_true rfl⟩ hl.1 rfl (lv_room (Nat.le_of_ble_eq_true rfl)) dX10_add_21 ⟨(Nat.le_of_ble_eq_true rfl), (Nat.le_of_ble_eq_true rfl)⟩ (fun H locs hW => ?_)
    generalize (uI M 0 2 g6) = M7 at hf hW
    refine lv_aload_n hx hb dX10_add_24 rfl (lv_at hl 0 rfl) ?_
    refine x_get hx hb hts hown hK hW (hI6.2 0 (by decide)) rfl (hI6.1 0 _) rfl inX10 3 (by decide) t_306 rfl dX10_add_25 ?_
    refine x_get hx hb hts hown hK hW (hI0.2 0 0 (by decide)) rfl (hI0.1 0 0 _) rfl inX8 0 (by decide) t_285 rfl dX10_add_28 ?_
    refine x_get hx hb hts hown hK hW (hI0.2 1 0 (by decide)) rfl (hI0.1 1 0 _) rfl inX0 0 (by decide) t_261 rfl dX10_add_31 ?_
    refine lv_iload_n hx hb dX10_add_34 rfl (lv_at hl 1 rfl) ?_
    obtain ⟨r10, hc9, hf⟩ := bd_some hf
    have hC11 := f7_guess_ok l D cy ad ns M7 0 2 (hI0.at_2) (M7 0 2) a1 r10 hc9
    rw [uI_id] at hC11
    refine x_vi (n := 1) (As := [.int a1]) (rest := []) hx hb hml hts hown hK hW hA hC11 (hI0.2 2 0 (by decide)) rfl (hI0.1 2 0 _) rfl rfl t_511 t_479 t_480 t_13 t_481 rfl (by decide +kernel) rfl rfl ⟨Nat.le_of_ble_eq_true rfl, Nat.le_of_ble_eq_true rfl⟩ hl.1 rfl (lv_room (Nat.le_of_ble_eq_true rfl)) dX10_add_35 ⟨(Nat.le_of_ble_eq_true rfl), (Nat.le_of_ble_eq_true rfl)⟩ (fun H locs hW => ?_)
    exact x_iret hx hb hr hlk hK hW (congrArg Prod.fst (Option.some.inj hf)) (congrArg (fun q => (Prod.snd q)) (Option.some.inj hf)) dX10_add_38
  · replace hf := (if_pos c4).symm.trans hf
    refine lv_bipush (v := -2) hx hb dX10_add_7 (by decide) ?_
    exact x_iret hx hb hr hlk hK hW (congrArg Prod.fst (Option.some.inj hf)) (congrArg (fun q => (Prod.snd q)) (Option.some.inj hf)) dX10_add_9
def f10_estimate (M : Me) (a1 : Int32) : Option Int32 :=
  ((f10_isKey a1).bind (fun r2 => (if r2 = 0 then (some (-2 : Int32)) else ((f7_guess (M 0 2) a1).bind (fun r6 => (some r6))))))
set_option maxHeartbeats 4000000 in
set_option maxRecDepth 100000 in
theorem f10_estimate_ok (l : Launch) (D : va_G) (cy : Nat → ClassId) (ad : Nat → Nat → Nat → Nat) (ns : List (Nat × Nat × Nat)) (hI0 : IsSt cy ad ns 0) (hI5 : IsPl cy ad ns 5) (hI6 : IsMain cy ad ns 6 0) (M : Me) (a1 : Int32) (r : Int32)  (hf : f10_estimate M a1 = some r) : Ci l yX10_estimate (.code yX10_estimate cX10_estimate 2 (some .int) :: tk_tb) { frames := 2, cells := 0, slots := 0, locals := 46 } D cy ad ns [.ref (ad 6 0 0), .int a1] M r M := by
  refine Ci.of (by decide) (Nat.le_of_ble_eq_true rfl) ?_
  intro p e s m below meth c ls hE hW hl
  obtain ⟨hx, hb, hr, hml, hown, hts, hlk, hK⟩ := hE
  have hA : ∀ q : Nat, s.heap.size ≤ q → Aw ad ns s.heap.size q := fun q h => Or.inr h
  have hl : lv_has ls 2 [(0, .ref (ad 6 0 0)), (1, .int a1)] := hl
  unfold f10_estimate at hf
  refine lv_iload_n hx hb dX10_estimate_0 rfl (lv_at hl 1 rfl) ?_
  obtain ⟨r2, hc1, hf⟩ := bd_some hf
  have hC3 := f10_isKey_ok l D cy ad ns M a1 r2 hc1
  refine x_si (n := 1) (As := [.int a1]) (rest := []) hx hb hml hts hown hK hW hA hC3 t_326 t_327 t_1 t_328 rfl (by decide +kernel) rfl rfl ⟨Nat.le_of_ble_eq_true rfl, Nat.le_of_ble_eq_true rfl⟩ hl.1 rfl (lv_room (Nat.le_of_ble_eq_true rfl)) dX10_estimate_1 ⟨(Nat.le_of_ble_eq_true rfl), (Nat.le_of_ble_eq_true rfl)⟩ (fun H locs hW => ?_)
  refine lv_if_eq (tgt := 24) hx hb dX10_estimate_4 (by decide) (fun c4 => ?_) (fun c4 => ?_)
  · replace hf := (if_pos c4).symm.trans hf
    refine lv_bipush (v := -2) hx hb dX10_estimate_24 (by decide) ?_
    exact x_iret hx hb hr hlk hK hW (Option.some.inj hf) rfl dX10_estimate_26
  · replace hf := (if_neg c4).symm.trans hf
    refine lv_aload_n hx hb dX10_estimate_7 rfl (lv_at hl 0 rfl) ?_
    refine x_get hx hb hts hown hK hW (hI6.2 0 (by decide)) rfl (hI6.1 0 _) rfl inX10 3 (by decide) t_306 rfl dX10_estimate_8 ?_
    refine x_get hx hb hts hown hK hW (hI0.2 0 0 (by decide)) rfl (hI0.1 0 0 _) rfl inX8 0 (by decide) t_285 rfl dX10_estimate_11 ?_
    refine x_get hx hb hts hown hK hW (hI0.2 1 0 (by decide)) rfl (hI0.1 1 0 _) rfl inX0 0 (by decide) t_261 rfl dX10_estimate_14 ?_
    refine lv_iload_n hx hb dX10_estimate_17 rfl (lv_at hl 1 rfl) ?_
    obtain ⟨r6, hc5, hf⟩ := bd_some hf
    have hC7 := f7_guess_ok l D cy ad ns M 0 2 (hI0.at_2) (M 0 2) a1 r6 hc5
    rw [uI_id] at hC7
    refine x_vi (n := 1) (As := [.int a1]) (rest := []) hx hb hml hts hown hK hW hA hC7 (hI0.2 2 0 (by decide)) rfl (hI0.1 2 0 _) rfl rfl t_511 t_479 t_480 t_13 t_481 rfl (by decide +kernel) rfl rfl ⟨Nat.le_of_ble_eq_true rfl, Nat.le_of_ble_eq_true rfl⟩ hl.1 rfl (lv_room (Nat.le_of_ble_eq_true rfl)) dX10_estimate_18 ⟨(Nat.le_of_ble_eq_true rfl), (Nat.le_of_ble_eq_true rfl)⟩ (fun H locs hW => ?_)
    refine lv_goto (tgt := 26) hx hb dX10_estimate_21 (by decide) ?_
    exact x_iret hx hb hr hlk hK hW (Option.some.inj hf) rfl dX10_estimate_26
def f10_counter (M : Me) (a1 : Int32) (a2 : Int32) : Option Int32 :=
  (if a1 < 0 then (some (-2 : Int32)) else (if (M 6 0 0 0) ≤ a1 then (some (-2 : Int32)) else (if a2 < 0 then (some (-2 : Int32)) else (if a2 < (64 : Int32) then (ck 4 a1 (rd 64 (M 0 2 ((a1).toNatClampNeg + 6)) a2 (fun v7 => (some v7)))) else (some (-2 : Int32))))))
set_option maxHeartbeats 4000000 in
set_option maxRecDepth 100000 in
theorem f10_counter_ok (l : Launch) (D : va_G) (cy : Nat → ClassId) (ad : Nat → Nat → Nat → Nat) (ns : List (Nat × Nat × Nat)) (hI0 : IsSt cy ad ns 0) (hI5 : IsPl cy ad ns 5) (hI6 : IsMain cy ad ns 6 0) (M : Me) (a1 : Int32) (a2 : Int32) (r : Int32)  (hf : f10_counter M a1 a2 = some r) : Ci l yX10_counter (.code yX10_counter cX10_counter 3 (some .int) :: tk_tb) { frames := 0, cells := 0, slots := 0, locals := 0 } D cy ad ns [.ref (ad 6 0 0), .int a1, .int a2] M r M := by
  refine Ci.of (by decide) (Nat.le_of_ble_eq_true rfl) ?_
  intro p e s m below meth c ls hE hW hl
  obtain ⟨hx, hb, hr, hml, hown, hts, hlk, hK⟩ := hE
  have hA : ∀ q : Nat, s.heap.size ≤ q → Aw ad ns s.heap.size q := fun q h => Or.inr h
  have hl : lv_has ls 3 [(0, .ref (ad 6 0 0)), (1, .int a1), (2, .int a2)] := hl
  unfold f10_counter at hf
  refine lv_iload_n hx hb dX10_counter_0 rfl (lv_at hl 1 rfl) ?_
  refine lv_if_lt (tgt := 22) hx hb dX10_counter_1 (by decide) (fun c1 => ?_) (fun c1 => ?_)
  · replace hf := (if_pos c1).symm.trans hf
    refine lv_bipush (v := -2) hx hb dX10_counter_22 (by decide) ?_
    exact x_iret hx hb hr hlk hK hW (Option.some.inj hf) rfl dX10_counter_24
  · replace hf := (if_neg c1).symm.trans hf
    refine lv_iload_n hx hb dX10_counter_4 rfl (lv_at hl 1 rfl) ?_
    refine lv_aload_n hx hb dX10_counter_5 rfl (lv_at hl 0 rfl) ?_
    refine x_get hx hb hts hown hK hW (hI6.2 0 (by decide)) rfl (hI6.1 0 _) rfl inX10 0 (by decide) t_303 rfl dX10_counter_6 ?_
    refine lv_icmp_ge (tgt := 22) hx hb dX10_counter_9 (by decide) (fun c2 => ?_) (fun c2 => ?_)
    · replace hf := (if_pos c2).symm.trans hf
      refine lv_bipush (v := -2) hx hb dX10_counter_22 (by decide) ?_
      exact x_iret hx hb hr hlk hK hW (Option.some.inj hf) rfl dX10_counter_24
    · replace hf := (if_neg c2).symm.trans hf
      refine lv_iload_n hx hb dX10_counter_12 rfl (lv_at hl 2 rfl) ?_
      refine lv_if_lt (tgt := 22) hx hb dX10_counter_13 (by decide) (fun c3 => ?_) (fun c3 => ?_)
      · replace hf := (if_pos c3).symm.trans hf
        refine lv_bipush (v := -2) hx hb dX10_counter_22 (by decide) ?_
        exact x_iret hx hb hr hlk hK hW (Option.some.inj hf) rfl dX10_counter_24
      · replace hf := (if_neg c3).symm.trans hf
        refine lv_iload_n hx hb dX10_counter_16 rfl (lv_at hl 2 rfl) ?_
        refine lv_bipush (v := 64) hx hb dX10_counter_17 (by decide) ?_
        refine lv_icmp_lt (tgt := 25) hx hb dX10_counter_19 (by decide) (fun c4 => ?_) (fun c4 => ?_)
        · replace hf := (if_pos c4).symm.trans hf
          refine lv_aload_n hx hb dX10_counter_25 rfl (lv_at hl 0 rfl) ?_
          refine x_get hx hb hts hown hK hW (hI6.2 0 (by decide)) rfl (hI6.1 0 _) rfl inX10 3 (by decide) t_306 rfl dX10_counter_26 ?_
          refine x_get hx hb hts hown hK hW (hI0.2 0 0 (by decide)) rfl (hI0.1 0 0 _) rfl inX8 0 (by decide) t_285 rfl dX10_counter_29 ?_
          refine x_get hx hb hts hown hK hW (hI0.2 1 0 (by decide)) rfl (hI0.1 1 0 _) rfl inX0 0 (by decide) t_261 rfl dX10_counter_32 ?_
          refine x_get hx hb hts hown hK hW (hI0.2 2 0 (by decide)) rfl (hI0.1 2 0 _) rfl inX7 0 (by decide) t_222 rfl dX10_counter_35 ?_
          refine lv_iload_n hx hb dX10_counter_38 rfl (lv_at hl 1 rfl) ?_
          obtain ⟨hi5, hf⟩ := ck_some hf
          refine x_aald hx hb hK hW (hI0.2 2 1 (by decide)) rfl (hI0.1 2 1 _) hi5 dX10_counter_39 ?_
          refine lv_iload_n hx hb dX10_counter_40 rfl (lv_at hl 2 rfl) ?_
          obtain ⟨hi6, hf⟩ := rd_some hf
          refine x_iald hx hb hK hW (hI0.2 2 _ (x_lt (vp_lt hi5) (by decide))) rfl ((hI0.1 2 _ _).trans (sk6 (ad := ad) (t := 0) (i := 2) (vp_lt hi5))) hi6 dX10_counter_41 ?_
          generalize M 0 2 ((a1).toNatClampNeg + 6) (a2).toNatClampNeg = v7 at hf ⊢
          exact x_iret hx hb hr hlk hK hW (Option.some.inj hf) rfl dX10_counter_42
        · replace hf := (if_neg c4).symm.trans hf
          refine lv_bipush (v := -2) hx hb dX10_counter_22 (by decide) ?_
          exact x_iret hx hb hr hlk hK hW (Option.some.inj hf) rfl dX10_counter_24
def f10_bit (M : Me) (a1 : Int32) : Option Int32 :=
  (if a1 < 0 then (some (-2 : Int32)) else (if (128 : Int32) ≤ a1 then (some (-2 : Int32)) else (rd 128 (M 0 2 2) a1 (fun v4 => (some v4)))))
set_option maxHeartbeats 4000000 in
set_option maxRecDepth 100000 in
theorem f10_bit_ok (l : Launch) (D : va_G) (cy : Nat → ClassId) (ad : Nat → Nat → Nat → Nat) (ns : List (Nat × Nat × Nat)) (hI0 : IsSt cy ad ns 0) (hI5 : IsPl cy ad ns 5) (hI6 : IsMain cy ad ns 6 0) (M : Me) (a1 : Int32) (r : Int32)  (hf : f10_bit M a1 = some r) : Ci l yX10_bit (.code yX10_bit cX10_bit 2 (some .int) :: tk_tb) { frames := 0, cells := 0, slots := 0, locals := 0 } D cy ad ns [.ref (ad 6 0 0), .int a1] M r M := by
  refine Ci.of (by decide) (Nat.le_of_ble_eq_true rfl) ?_
  intro p e s m below meth c ls hE hW hl
  obtain ⟨hx, hb, hr, hml, hown, hts, hlk, hK⟩ := hE
  have hA : ∀ q : Nat, s.heap.size ≤ q → Aw ad ns s.heap.size q := fun q h => Or.inr h
  have hl : lv_has ls 2 [(0, .ref (ad 6 0 0)), (1, .int a1)] := hl
  unfold f10_bit at hf
  refine lv_iload_n hx hb dX10_bit_0 rfl (lv_at hl 1 rfl) ?_
  refine lv_if_lt (tgt := 29) hx hb dX10_bit_1 (by decide) (fun c1 => ?_) (fun c1 => ?_)
  · replace hf := (if_pos c1).symm.trans hf
    refine lv_bipush (v := -2) hx hb dX10_bit_29 (by decide) ?_
    exact x_iret hx hb hr hlk hK hW (Option.some.inj hf) rfl dX10_bit_31
  · replace hf := (if_neg c1).symm.trans hf
    refine lv_iload_n hx hb dX10_bit_4 rfl (lv_at hl 1 rfl) ?_
    refine lv_sipush (v := 128) hx hb dX10_bit_5 (by decide) ?_
    refine lv_icmp_ge (tgt := 29) hx hb dX10_bit_8 (by decide) (fun c2 => ?_) (fun c2 => ?_)
    · replace hf := (if_pos c2).symm.trans hf
      refine lv_bipush (v := -2) hx hb dX10_bit_29 (by decide) ?_
      exact x_iret hx hb hr hlk hK hW (Option.some.inj hf) rfl dX10_bit_31
    · replace hf := (if_neg c2).symm.trans hf
      refine lv_aload_n hx hb dX10_bit_11 rfl (lv_at hl 0 rfl) ?_
      refine x_get hx hb hts hown hK hW (hI6.2 0 (by decide)) rfl (hI6.1 0 _) rfl inX10 3 (by decide) t_306 rfl dX10_bit_12 ?_
      refine x_get hx hb hts hown hK hW (hI0.2 0 0 (by decide)) rfl (hI0.1 0 0 _) rfl inX8 0 (by decide) t_285 rfl dX10_bit_15 ?_
      refine x_get hx hb hts hown hK hW (hI0.2 1 0 (by decide)) rfl (hI0.1 1 0 _) rfl inX0 0 (by decide) t_261 rfl dX10_bit_18 ?_
      refine x_get hx hb hts hown hK hW (hI0.2 2 0 (by decide)) rfl (hI0.1 2 0 _) rfl inX7 1 (by decide) t_224 rfl dX10_bit_21 ?_
      refine lv_iload_n hx hb dX10_bit_24 rfl (lv_at hl 1 rfl) ?_
      obtain ⟨hi3, hf⟩ := rd_some hf
      refine x_iald hx hb hK hW (hI0.2 2 2 (by decide)) rfl (hI0.1 2 2 _) hi3 dX10_bit_25 ?_
      generalize M 0 2 2 (a1).toNatClampNeg = v4 at hf ⊢
      refine lv_goto (tgt := 31) hx hb dX10_bit_26 (by decide) ?_
      exact x_iret hx hb hr hlk hK hW (Option.some.inj hf) rfl dX10_bit_31
def f10_remove (a1 : Int32) (M : Me) : Option (Int32 × Me) :=
  ((f10_isKey a1).bind (fun r2 => (if r2 = 0 then (some ((-2 : Int32), M)) else (rd 100 (M 0 3 4) a1 (fun v6 => ((f5_takeOut 3 a1 (M 0 3)).bind (fun g8 => (st (uI M 0 3 g8) (fun M9 => (some (v6, M9)))))))))))
set_option maxHeartbeats 4000000 in
set_option maxRecDepth 100000 in
theorem f10_remove_ok (l : Launch) (D : va_G) (cy : Nat → ClassId) (ad : Nat → Nat → Nat → Nat) (ns : List (Nat × Nat × Nat)) (hI0 : IsSt cy ad ns 0) (hI5 : IsPl cy ad ns 5) (hI6 : IsMain cy ad ns 6 0) (M : Me) (a1 : Int32) (r : Int32) (m2 : Me)  (hf : f10_remove a1 M = some (r, m2)) : Ci l yX10_remove (.code yX10_remove cX10_remove 3 (some .int) :: tk_tb) { frames := 1, cells := 0, slots := 0, locals := 26 } D cy ad ns [.ref (ad 6 0 0), .int a1] M r m2 := by
  refine Ci.of (by decide) (Nat.le_of_ble_eq_true rfl) ?_
  intro p e s m below meth c ls hE hW hl
  obtain ⟨hx, hb, hr, hml, hown, hts, hlk, hK⟩ := hE
  have hA : ∀ q : Nat, s.heap.size ≤ q → Aw ad ns s.heap.size q := fun q h => Or.inr h
  have hl : lv_has ls 3 [(0, .ref (ad 6 0 0)), (1, .int a1)] := hl
  unfold f10_remove at hf
  refine lv_iload_n hx hb dX10_remove_0 rfl (lv_at hl 1 rfl) ?_
  obtain ⟨r2, hc1, hf⟩ := bd_some hf
  have hC3 := f10_isKey_ok l D cy ad ns M a1 r2 hc1
  refine x_si (n := 1) (As := [.int a1]) (rest := []) hx hb hml hts hown hK hW hA hC3 t_326 t_327 t_1 t_328 rfl (by decide +kernel) rfl rfl ⟨Nat.le_of_ble_eq_true rfl, Nat.le_of_ble_eq_true rfl⟩ hl.1 rfl (lv_room (Nat.le_of_ble_eq_true rfl)) dX10_remove_1 ⟨(Nat.le_of_ble_eq_true rfl), (Nat.le_of_ble_eq_true rfl)⟩ (fun H locs hW => ?_)
  refine lv_if_ne (tgt := 10) hx hb dX10_remove_4 (by decide) (fun c4 => ?_) (fun c4 => ?_)
  · replace hf := (if_neg c4).symm.trans hf
    refine lv_aload_n hx hb dX10_remove_10 rfl (lv_at hl 0 rfl) ?_
    refine x_get hx hb hts hown hK hW (hI6.2 0 (by decide)) rfl (hI6.1 0 _) rfl inX10 3 (by decide) t_306 rfl dX10_remove_11 ?_
    refine x_get hx hb hts hown hK hW (hI0.2 0 0 (by decide)) rfl (hI0.1 0 0 _) rfl inX8 0 (by decide) t_285 rfl dX10_remove_14 ?_
    refine x_get hx hb hts hown hK hW (hI0.2 1 0 (by decide)) rfl (hI0.1 1 0 _) rfl inX0 1 (by decide) t_264 rfl dX10_remove_17 ?_
    refine x_get hx hb hts hown hK hW (hI0.2 3 0 (by decide)) rfl (hI0.1 3 0 _) rfl inX5 3 (by decide) t_106 rfl dX10_remove_20 ?_
    refine lv_iload_n hx hb dX10_remove_23 rfl (lv_at hl 1 rfl) ?_
    obtain ⟨hi5, hf⟩ := rd_some hf
    refine x_iald hx hb hK hW (hI0.2 3 4 (by decide)) rfl (hI0.1 3 4 _) hi5 dX10_remove_24 ?_
    generalize M 0 3 4 (a1).toNatClampNeg = v6 at hf ⊢
    refine lv_istore_n (lv' := [(2, .int v6), (0, .ref (ad 6 0 0)), (1, .int a1)]) hx hb dX10_remove_25 rfl hl (by decide) rfl (fun ls hl => ?_)
    refine lv_aload_n hx hb dX10_remove_26 rfl (lv_at hl 1 rfl) ?_
    refine x_get hx hb hts hown hK hW (hI6.2 0 (by decide)) rfl (hI6.1 0 _) rfl inX10 3 (by decide) t_306 rfl dX10_remove_27 ?_
    refine x_get hx hb hts hown hK hW (hI0.2 0 0 (by decide)) rfl (hI0.1 0 0 _) rfl inX8 0 (by decide) t_285 rfl dX10_remove_30 ?_
    refine x_get hx hb hts hown hK hW (hI0.2 1 0 (by decide)) rfl (hI0.1 1 0 _) rfl inX0 1 (by decide) t_264 rfl dX10_remove_33 ?_
    refine lv_iload_n hx hb dX10_remove_36 rfl (lv_at hl 2 rfl) ?_
    obtain ⟨g8, hc7, hf⟩ := bd_some hf
    replace hf := st_some hf
    have hC10 := f5_takeOut_ok l D cy ad ns M 0 3 3 (by decide) (hI0.at_3) (M 0 3) a1 g8 hc7
    rw [uI_id] at hC10
    refine x_vv (n := 1) (As := [.int a1]) (rest := []) hx hb hml hts hown hK hW hA hC10 (hI0.2 3 0 (by decide)) rfl (hI0.1 3 0 _) rfl rfl t_528 t_431 t_432 t_6 t_433 rfl (by decide +kernel) rfl rfl ⟨Nat.le_of_ble_eq_true rfl, Nat.le_of_ble_eq_true rfl⟩ hl.1 rfl (lv_room (Nat.le_of_ble_eq_true rfl)) dX10_remove_37 ⟨(Nat.le_of_ble_eq_true rfl), (Nat.le_of_ble_eq_true rfl)⟩ (fun H locs hW => ?_)
    generalize (uI M 0 3 g8) = M9 at hf hW
    refine lv_iload_n hx hb dX10_remove_40 rfl (lv_at hl 0 rfl) ?_
    exact x_iret hx hb hr hlk hK hW (congrArg Prod.fst (Option.some.inj hf)) (congrArg (fun q => (Prod.snd q)) (Option.some.inj hf)) dX10_remove_41
  · replace hf := (if_pos c4).symm.trans hf
    refine lv_bipush (v := -2) hx hb dX10_remove_7 (by decide) ?_
    exact x_iret hx hb hr hlk hK hW (congrArg Prod.fst (Option.some.inj hf)) (congrArg (fun q => (Prod.snd q)) (Option.some.inj hf)) dX10_remove_9
def f10_where (M : Me) (a1 : Int32) : Option Int32 :=
  ((f10_isKey a1).bind (fun r2 => (if r2 = 0 then (some (-2 : Int32)) else (rd 100 (M 0 3 4) a1 (fun v6 => (some v6))))))
set_option maxHeartbeats 4000000 in
set_option maxRecDepth 100000 in
theorem f10_where_ok (l : Launch) (D : va_G) (cy : Nat → ClassId) (ad : Nat → Nat → Nat → Nat) (ns : List (Nat × Nat × Nat)) (hI0 : IsSt cy ad ns 0) (hI5 : IsPl cy ad ns 5) (hI6 : IsMain cy ad ns 6 0) (M : Me) (a1 : Int32) (r : Int32)  (hf : f10_where M a1 = some r) : Ci l yX10_where (.code yX10_where cX10_where 2 (some .int) :: tk_tb) { frames := 1, cells := 0, slots := 0, locals := 20 } D cy ad ns [.ref (ad 6 0 0), .int a1] M r M := by
  refine Ci.of (by decide) (Nat.le_of_ble_eq_true rfl) ?_
  intro p e s m below meth c ls hE hW hl
  obtain ⟨hx, hb, hr, hml, hown, hts, hlk, hK⟩ := hE
  have hA : ∀ q : Nat, s.heap.size ≤ q → Aw ad ns s.heap.size q := fun q h => Or.inr h
  have hl : lv_has ls 2 [(0, .ref (ad 6 0 0)), (1, .int a1)] := hl
  unfold f10_where at hf
  refine lv_iload_n hx hb dX10_where_0 rfl (lv_at hl 1 rfl) ?_
  obtain ⟨r2, hc1, hf⟩ := bd_some hf
  have hC3 := f10_isKey_ok l D cy ad ns M a1 r2 hc1
  refine x_si (n := 1) (As := [.int a1]) (rest := []) hx hb hml hts hown hK hW hA hC3 t_326 t_327 t_1 t_328 rfl (by decide +kernel) rfl rfl ⟨Nat.le_of_ble_eq_true rfl, Nat.le_of_ble_eq_true rfl⟩ hl.1 rfl (lv_room (Nat.le_of_ble_eq_true rfl)) dX10_where_1 ⟨(Nat.le_of_ble_eq_true rfl), (Nat.le_of_ble_eq_true rfl)⟩ (fun H locs hW => ?_)
  refine lv_if_eq (tgt := 25) hx hb dX10_where_4 (by decide) (fun c4 => ?_) (fun c4 => ?_)
  · replace hf := (if_pos c4).symm.trans hf
    refine lv_bipush (v := -2) hx hb dX10_where_25 (by decide) ?_
    exact x_iret hx hb hr hlk hK hW (Option.some.inj hf) rfl dX10_where_27
  · replace hf := (if_neg c4).symm.trans hf
    refine lv_aload_n hx hb dX10_where_7 rfl (lv_at hl 0 rfl) ?_
    refine x_get hx hb hts hown hK hW (hI6.2 0 (by decide)) rfl (hI6.1 0 _) rfl inX10 3 (by decide) t_306 rfl dX10_where_8 ?_
    refine x_get hx hb hts hown hK hW (hI0.2 0 0 (by decide)) rfl (hI0.1 0 0 _) rfl inX8 0 (by decide) t_285 rfl dX10_where_11 ?_
    refine x_get hx hb hts hown hK hW (hI0.2 1 0 (by decide)) rfl (hI0.1 1 0 _) rfl inX0 1 (by decide) t_264 rfl dX10_where_14 ?_
    refine x_get hx hb hts hown hK hW (hI0.2 3 0 (by decide)) rfl (hI0.1 3 0 _) rfl inX5 3 (by decide) t_106 rfl dX10_where_17 ?_
    refine lv_iload_n hx hb dX10_where_20 rfl (lv_at hl 1 rfl) ?_
    obtain ⟨hi5, hf⟩ := rd_some hf
    refine x_iald hx hb hK hW (hI0.2 3 4 (by decide)) rfl (hI0.1 3 4 _) hi5 dX10_where_21 ?_
    generalize M 0 3 4 (a1).toNatClampNeg = v6 at hf ⊢
    refine lv_goto (tgt := 27) hx hb dX10_where_22 (by decide) ?_
    exact x_iret hx hb hr hlk hK hW (Option.some.inj hf) rfl dX10_where_27
def f10_key (M : Me) (a1 : Int32) (a2 : Int32) : Option Int32 :=
  (if a1 < 0 then (some (-2 : Int32)) else (if (3 : Int32) ≤ a1 then (some (-2 : Int32)) else ((f5_keyAt 3 (M 0 3) a1 a2).bind (fun r4 => (some r4)))))
set_option maxHeartbeats 4000000 in
set_option maxRecDepth 100000 in
theorem f10_key_ok (l : Launch) (D : va_G) (cy : Nat → ClassId) (ad : Nat → Nat → Nat → Nat) (ns : List (Nat × Nat × Nat)) (hI0 : IsSt cy ad ns 0) (hI5 : IsPl cy ad ns 5) (hI6 : IsMain cy ad ns 6 0) (M : Me) (a1 : Int32) (a2 : Int32) (r : Int32)  (hf : f10_key M a1 a2 = some r) : Ci l yX10_key (.code yX10_key cX10_key 3 (some .int) :: tk_tb) { frames := 1, cells := 0, slots := 0, locals := 22 } D cy ad ns [.ref (ad 6 0 0), .int a1, .int a2] M r M := by
  refine Ci.of (by decide) (Nat.le_of_ble_eq_true rfl) ?_
  intro p e s m below meth c ls hE hW hl
  obtain ⟨hx, hb, hr, hml, hown, hts, hlk, hK⟩ := hE
  have hA : ∀ q : Nat, s.heap.size ≤ q → Aw ad ns s.heap.size q := fun q h => Or.inr h
  have hl : lv_has ls 3 [(0, .ref (ad 6 0 0)), (1, .int a1), (2, .int a2)] := hl
  unfold f10_key at hf
  refine lv_iload_n hx hb dX10_key_0 rfl (lv_at hl 1 rfl) ?_
  refine lv_if_lt (tgt := 27) hx hb dX10_key_1 (by decide) (fun c1 => ?_) (fun c1 => ?_)
  · replace hf := (if_pos c1).symm.trans hf
    refine lv_bipush (v := -2) hx hb dX10_key_27 (by decide) ?_
    exact x_iret hx hb hr hlk hK hW (Option.some.inj hf) rfl dX10_key_29
  · replace hf := (if_neg c1).symm.trans hf
    refine lv_iload_n hx hb dX10_key_4 rfl (lv_at hl 1 rfl) ?_
    refine lv_iconst (v := 3) hx hb dX10_key_5 (by decide) ?_
    refine lv_icmp_ge (tgt := 27) hx hb dX10_key_6 (by decide) (fun c2 => ?_) (fun c2 => ?_)
    · replace hf := (if_pos c2).symm.trans hf
      refine lv_bipush (v := -2) hx hb dX10_key_27 (by decide) ?_
      exact x_iret hx hb hr hlk hK hW (Option.some.inj hf) rfl dX10_key_29
    · replace hf := (if_neg c2).symm.trans hf
      refine lv_aload_n hx hb dX10_key_9 rfl (lv_at hl 0 rfl) ?_
      refine x_get hx hb hts hown hK hW (hI6.2 0 (by decide)) rfl (hI6.1 0 _) rfl inX10 3 (by decide) t_306 rfl dX10_key_10 ?_
      refine x_get hx hb hts hown hK hW (hI0.2 0 0 (by decide)) rfl (hI0.1 0 0 _) rfl inX8 0 (by decide) t_285 rfl dX10_key_13 ?_
      refine x_get hx hb hts hown hK hW (hI0.2 1 0 (by decide)) rfl (hI0.1 1 0 _) rfl inX0 1 (by decide) t_264 rfl dX10_key_16 ?_
      refine lv_iload_n hx hb dX10_key_19 rfl (lv_at hl 1 rfl) ?_
      refine lv_iload_n hx hb dX10_key_20 rfl (lv_at hl 2 rfl) ?_
      obtain ⟨r4, hc3, hf⟩ := bd_some hf
      have hC5 := f5_keyAt_ok l D cy ad ns M 0 3 3 (by decide) (hI0.at_3) (M 0 3) a1 a2 r4 hc3
      rw [uI_id] at hC5
      refine x_vi (n := 2) (As := [.int a1, .int a2]) (rest := []) hx hb hml hts hown hK hW hA hC5 (hI0.2 3 0 (by decide)) rfl (hI0.1 3 0 _) rfl rfl t_537 t_471 t_472 t_6 t_473 rfl (by decide +kernel) rfl rfl ⟨Nat.le_of_ble_eq_true rfl, Nat.le_of_ble_eq_true rfl⟩ hl.1 rfl (lv_room (Nat.le_of_ble_eq_true rfl)) dX10_key_21 ⟨(Nat.le_of_ble_eq_true rfl), (Nat.le_of_ble_eq_true rfl)⟩ (fun H locs hW => ?_)
      refine lv_goto (tgt := 29) hx hb dX10_key_24 (by decide) ?_
      exact x_iret hx hb hr hlk hK hW (Option.some.inj hf) rfl dX10_key_29
def f10_about (M : Me) (a1 : Int32) : Option Int32 :=
  ((f8_tellAbout (M 0) a1).bind (fun r2 => (some r2)))
set_option maxHeartbeats 4000000 in
set_option maxRecDepth 100000 in
theorem f10_about_ok (l : Launch) (D : va_G) (cy : Nat → ClassId) (ad : Nat → Nat → Nat → Nat) (ns : List (Nat × Nat × Nat)) (hI0 : IsSt cy ad ns 0) (hI5 : IsPl cy ad ns 5) (hI6 : IsMain cy ad ns 6 0) (M : Me) (a1 : Int32) (r : Int32)  (hf : f10_about M a1 = some r) : Ci l yX10_about (.code yX10_about cX10_about 2 (some .int) :: tk_tb) { frames := 3, cells := 0, slots := 0, locals := 61 } D cy ad ns [.ref (ad 6 0 0), .int a1] M r M := by
  refine Ci.of (by decide) (Nat.le_of_ble_eq_true rfl) ?_
  intro p e s m below meth c ls hE hW hl
  obtain ⟨hx, hb, hr, hml, hown, hts, hlk, hK⟩ := hE
  have hA : ∀ q : Nat, s.heap.size ≤ q → Aw ad ns s.heap.size q := fun q h => Or.inr h
  have hl : lv_has ls 2 [(0, .ref (ad 6 0 0)), (1, .int a1)] := hl
  unfold f10_about at hf
  refine lv_aload_n hx hb dX10_about_0 rfl (lv_at hl 0 rfl) ?_
  refine x_get hx hb hts hown hK hW (hI6.2 0 (by decide)) rfl (hI6.1 0 _) rfl inX10 3 (by decide) t_306 rfl dX10_about_1 ?_
  refine lv_iload_n hx hb dX10_about_4 rfl (lv_at hl 1 rfl) ?_
  obtain ⟨r2, hc1, hf⟩ := bd_some hf
  have hC3 := f8_tellAbout_ok l D cy ad ns M 0 hI0 (M 0) a1 r2 hc1
  rw [up_id] at hC3
  refine x_vi (n := 1) (As := [.int a1]) (rest := []) hx hb hml hts hown hK hW hA hC3 (hI0.2 0 0 (by decide)) rfl (hI0.1 0 0 _) rfl rfl t_542 t_543 t_544 t_9 t_545 rfl (by decide +kernel) rfl rfl ⟨Nat.le_of_ble_eq_true rfl, Nat.le_of_ble_eq_true rfl⟩ hl.1 rfl (lv_room (Nat.le_of_ble_eq_true rfl)) dX10_about_5 ⟨(Nat.le_of_ble_eq_true rfl), (Nat.le_of_ble_eq_true rfl)⟩ (fun H locs hW => ?_)
  exact x_iret hx hb hr hlk hK hW (Option.some.inj hf) rfl dX10_about_8
def f10_trace (M : Me) (a1 : Int32) : Option Int32 :=
  ((f9_keyAt (M 0 4) a1).bind (fun r2 => (some r2)))
set_option maxHeartbeats 4000000 in
set_option maxRecDepth 100000 in
theorem f10_trace_ok (l : Launch) (D : va_G) (cy : Nat → ClassId) (ad : Nat → Nat → Nat → Nat) (ns : List (Nat × Nat × Nat)) (hI0 : IsSt cy ad ns 0) (hI5 : IsPl cy ad ns 5) (hI6 : IsMain cy ad ns 6 0) (M : Me) (a1 : Int32) (r : Int32)  (hf : f10_trace M a1 = some r) : Ci l yX10_trace (.code yX10_trace cX10_trace 2 (some .int) :: tk_tb) { frames := 1, cells := 0, slots := 0, locals := 21 } D cy ad ns [.ref (ad 6 0 0), .int a1] M r M := by
  refine Ci.of (by decide) (Nat.le_of_ble_eq_true rfl) ?_
  intro p e s m below meth c ls hE hW hl
  obtain ⟨hx, hb, hr, hml, hown, hts, hlk, hK⟩ := hE
  have hA : ∀ q : Nat, s.heap.size ≤ q → Aw ad ns s.heap.size q := fun q h => Or.inr h
  have hl : lv_has ls 2 [(0, .ref (ad 6 0 0)), (1, .int a1)] := hl
  unfold f10_trace at hf
  refine lv_aload_n hx hb dX10_trace_0 rfl (lv_at hl 0 rfl) ?_
  refine x_get hx hb hts hown hK hW (hI6.2 0 (by decide)) rfl (hI6.1 0 _) rfl inX10 3 (by decide) t_306 rfl dX10_trace_1 ?_
  refine x_get hx hb hts hown hK hW (hI0.2 0 0 (by decide)) rfl (hI0.1 0 0 _) rfl inX8 1 (by decide) t_287 rfl dX10_trace_4 ?_
  refine lv_iload_n hx hb dX10_trace_7 rfl (lv_at hl 1 rfl) ?_
  obtain ⟨r2, hc1, hf⟩ := bd_some hf
  have hC3 := f9_keyAt_ok l D cy ad ns M 0 4 (hI0.at_4) (M 0 4) a1 r2 hc1
  rw [uI_id] at hC3
  refine x_vi (n := 1) (As := [.int a1]) (rest := []) hx hb hml hts hown hK hW hA hC3 (hI0.2 4 0 (by decide)) rfl (hI0.1 4 0 _) rfl rfl t_555 t_556 t_557 t_10 t_558 rfl (by decide +kernel) rfl rfl ⟨Nat.le_of_ble_eq_true rfl, Nat.le_of_ble_eq_true rfl⟩ hl.1 rfl (lv_room (Nat.le_of_ble_eq_true rfl)) dX10_trace_8 ⟨(Nat.le_of_ble_eq_true rfl), (Nat.le_of_ble_eq_true rfl)⟩ (fun H locs hW => ?_)
  exact x_iret hx hb hr hlk hK hW (Option.some.inj hf) rfl dX10_trace_11
def f10_sound (M : Me) : Option Int32 :=
  ((f0_isSound (M 0)).bind (fun r2 => (if r2 = 0 then (some (0 : Int32)) else ((f7_isSound (M 0 2)).bind (fun r6 => (if r6 = 0 then (some (0 : Int32)) else (some (1 : Int32))))))))
set_option maxHeartbeats 4000000 in
set_option maxRecDepth 100000 in
theorem f10_sound_ok (l : Launch) (D : va_G) (cy : Nat → ClassId) (ad : Nat → Nat → Nat → Nat) (ns : List (Nat × Nat × Nat)) (hI0 : IsSt cy ad ns 0) (hI5 : IsPl cy ad ns 5) (hI6 : IsMain cy ad ns 6 0) (M : Me) (r : Int32)  (hf : f10_sound M = some r) : Ci l yX10_sound (.code yX10_sound cX10_sound 1 (some .int) :: tk_tb) { frames := 3, cells := 0, slots := 0, locals := 68 } D cy ad ns [.ref (ad 6 0 0)] M r M := by
  refine Ci.of (by decide) (Nat.le_of_ble_eq_true rfl) ?_
  intro p e s m below meth c ls hE hW hl
  obtain ⟨hx, hb, hr, hml, hown, hts, hlk, hK⟩ := hE
  have hA : ∀ q : Nat, s.heap.size ≤ q → Aw ad ns s.heap.size q := fun q h => Or.inr h
  have hl : lv_has ls 1 [(0, .ref (ad 6 0 0))] := hl
  unfold f10_sound at hf
  refine lv_aload_n hx hb dX10_sound_0 rfl (lv_at hl 0 rfl) ?_
  refine x_get hx hb hts hown hK hW (hI6.2 0 (by decide)) rfl (hI6.1 0 _) rfl inX10 3 (by decide) t_306 rfl dX10_sound_1 ?_
  refine x_get hx hb hts hown hK hW (hI0.2 0 0 (by decide)) rfl (hI0.1 0 0 _) rfl inX8 0 (by decide) t_285 rfl dX10_sound_4 ?_
  obtain ⟨r2, hc1, hf⟩ := bd_some hf
  have hC3 := f0_isSound_ok l D cy ad ns M 0 hI0 (M 0) r2 hc1
  rw [up_id] at hC3
  refine x_vi (n := 0) (As := []) (rest := []) hx hb hml hts hown hK hW hA hC3 (hI0.2 1 0 (by decide)) rfl (hI0.1 1 0 _) rfl rfl t_707 t_708 t_709 t_12 t_710 rfl (by decide +kernel) rfl rfl ⟨Nat.le_of_ble_eq_true rfl, Nat.le_of_ble_eq_true rfl⟩ hl.1 rfl (lv_room (Nat.le_of_ble_eq_true rfl)) dX10_sound_7 ⟨(Nat.le_of_ble_eq_true rfl), (Nat.le_of_ble_eq_true rfl)⟩ (fun H locs hW => ?_)
  refine lv_if_eq (tgt := 33) hx hb dX10_sound_10 (by decide) (fun c4 => ?_) (fun c4 => ?_)
  · replace hf := (if_pos c4).symm.trans hf
    refine lv_iconst (v := 0) hx hb dX10_sound_33 (by decide) ?_
    exact x_iret hx hb hr hlk hK hW (Option.some.inj hf) rfl dX10_sound_34
  · replace hf := (if_neg c4).symm.trans hf
    refine lv_aload_n hx hb dX10_sound_13 rfl (lv_at hl 0 rfl) ?_
    refine x_get hx hb hts hown hK hW (hI6.2 0 (by decide)) rfl (hI6.1 0 _) rfl inX10 3 (by decide) t_306 rfl dX10_sound_14 ?_
    refine x_get hx hb hts hown hK hW (hI0.2 0 0 (by decide)) rfl (hI0.1 0 0 _) rfl inX8 0 (by decide) t_285 rfl dX10_sound_17 ?_
    refine x_get hx hb hts hown hK hW (hI0.2 1 0 (by decide)) rfl (hI0.1 1 0 _) rfl inX0 0 (by decide) t_261 rfl dX10_sound_20 ?_
    obtain ⟨r6, hc5, hf⟩ := bd_some hf
    have hC7 := f7_isSound_ok l D cy ad ns M 0 2 (hI0.at_2) (M 0 2) r6 hc5
    rw [uI_id] at hC7
    refine x_vi (n := 0) (As := []) (rest := []) hx hb hml hts hown hK hW hA hC7 (hI0.2 2 0 (by decide)) rfl (hI0.1 2 0 _) rfl rfl t_719 t_720 t_721 t_13 t_722 rfl (by decide +kernel) rfl rfl ⟨Nat.le_of_ble_eq_true rfl, Nat.le_of_ble_eq_true rfl⟩ hl.1 rfl (lv_room (Nat.le_of_ble_eq_true rfl)) dX10_sound_23 ⟨(Nat.le_of_ble_eq_true rfl), (Nat.le_of_ble_eq_true rfl)⟩ (fun H locs hW => ?_)
    refine lv_if_eq (tgt := 33) hx hb dX10_sound_26 (by decide) (fun c8 => ?_) (fun c8 => ?_)
    · replace hf := (if_pos c8).symm.trans hf
      refine lv_iconst (v := 0) hx hb dX10_sound_33 (by decide) ?_
      exact x_iret hx hb hr hlk hK hW (Option.some.inj hf) rfl dX10_sound_34
    · replace hf := (if_neg c8).symm.trans hf
      refine lv_iconst (v := 1) hx hb dX10_sound_29 (by decide) ?_
      refine lv_goto (tgt := 34) hx hb dX10_sound_30 (by decide) ?_
      exact x_iret hx hb hr hlk hK hW (Option.some.inj hf) rfl dX10_sound_34
