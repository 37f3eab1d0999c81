def f6_begin (a1 : Int32) (g : Sg) : Option Sg :=
  (st (va_up g 0 (upd (g 0) 7 (if (1 : Int32) < (if a1 < (30 : Int32) then a1 else (30 : Int32)) then (if a1 < (30 : Int32) then a1 else (30 : Int32)) else (1 : Int32)))) (fun g1 => (st (va_up g1 0 (upd (g1 0) 8 (0 : Int32))) (fun g2 => (st (va_up g2 0 (upd (g2 0) 9 (0 : Int32))) (fun g3 => (some g3)))))))
set_option maxHeartbeats 4000000 in
set_option maxRecDepth 100000 in
theorem f6_begin_ok (l : Launch) (D : va_G) (cy : Nat → ClassId) (ad : Nat → Nat → Nat → Nat) (ns : List (Nat × Nat × Nat)) (M : Me) (t i : Nat) (hI : IsSeats cy ad ns t i) (g : Sg) (a1 : Int32) (m2 : Sg)  (hf : f6_begin a1 g = some m2) : Cv l yX6_begin (.code yX6_begin cX6_begin 2 none :: tk_tb) { frames := 1, cells := 0, slots := 0, locals := 21 } D cy ad ns [.ref (ad t i 0), .int a1] (uI M t i g) (uI M t i m2) := by
  refine Cv.of (by decide) (Nat.le_of_ble_eq_true rfl) ?_
  intro p e s m below meth c ls hE hW hl
  obtain ⟨hx, hb, hr, hml, hown, hts, hlk, hK⟩ := hE
  have hA : ∀ q : Nat, s.heap.size ≤ q → Aw ad ns s.heap.size q := fun q h => Or.inr h
  have hl : lv_has ls 2 [(0, .ref (ad t i 0)), (1, .int a1)] := hl
  unfold f6_begin at hf
  refine lv_aload_n hx hb dX6_begin_0 rfl (lv_at hl 0 rfl) ?_
  refine lv_iconst (v := 1) hx hb dX6_begin_1 (by decide) ?_
  refine lv_bipush (v := 30) hx hb dX6_begin_2 (by decide) ?_
  refine lv_iload_n hx hb dX6_begin_4 rfl (lv_at hl 1 rfl) ?_
  refine va_mmin hx hb (hml.trans hl.1.symm) hown (hts _ t_586) (hts _ t_149) (hts _ t_7) (hts _ t_150) (Nat.le_of_ble_eq_true rfl) (Nat.le_of_ble_eq_true rfl) (Nat.zero_le _) (Nat.zero_le _) dX6_begin_5 ?_
  refine va_mmax hx hb (hml.trans hl.1.symm) hown (hts _ t_587) (hts _ t_88) (hts _ t_7) (hts _ t_89) (Nat.le_of_ble_eq_true rfl) (Nat.le_of_ble_eq_true rfl) (Nat.zero_le _) (Nat.zero_le _) dX6_begin_8 ?_
  replace hf := st_some hf
  refine x_put hx hb hts hown hK hW (hI.2 0 (by decide)) uI_o (hI.1 0 _) rfl inX6 tyX6 tyX6_ok nmX6 7 (by decide) t_50 rfl rfl (Nat.le_of_ble_eq_true rfl) (hI.1 0 _) uC_leaf dX6_begin_11 (fun H locs hW => ?_)
  generalize (va_up g 0 (upd (g 0) 7 (if (1 : Int32) < (if a1 < (30 : Int32) then a1 else (30 : Int32)) then (if a1 < (30 : Int32) then a1 else (30 : Int32)) else (1 : Int32)))) = g1 at hf hW
  refine lv_aload_n hx hb dX6_begin_14 rfl (lv_at hl 0 rfl) ?_
  refine lv_iconst (v := 0) hx hb dX6_begin_15 (by decide) ?_
  replace hf := st_some hf
  refine x_put hx hb hts hown hK hW (hI.2 0 (by decide)) uI_o (hI.1 0 _) rfl inX6 tyX6 tyX6_ok nmX6 8 (by decide) t_51 rfl rfl (Nat.le_of_ble_eq_true rfl) (hI.1 0 _) uC_leaf dX6_begin_16 (fun H locs hW => ?_)
  generalize (va_up g1 0 (upd (g1 0) 8 (0 : Int32))) = g2 at hf hW
  refine lv_aload_n hx hb dX6_begin_19 rfl (lv_at hl 0 rfl) ?_
  refine lv_iconst (v := 0) hx hb dX6_begin_20 (by decide) ?_
  replace hf := st_some hf
  refine x_put hx hb hts hown hK hW (hI.2 0 (by decide)) uI_o (hI.1 0 _) rfl inX6 tyX6 tyX6_ok nmX6 9 (by decide) t_52 rfl rfl (Nat.le_of_ble_eq_true rfl) (hI.1 0 _) uC_leaf dX6_begin_21 (fun H locs hW => ?_)
  generalize (va_up g2 0 (upd (g2 0) 9 (0 : Int32))) = g3 at hf hW
  exact x_vret hx hb hr hlk hK hW (congrArg (fun q => (uI M t i q)) (Option.some.inj hf)) dX6_begin_24
def f6_seatOf_b2 (g : Sg) (rec2 : Int32 → Int32 → Option Int32) (w1 : Int32) (w2 : Int32) : Option Int32 :=
  (if (g 0 8) ≤ w2 then (some (-1 : Int32)) else (rd 30 (g 1) w2 (fun v3 => (if v3 = w1 then (some w2) else (rec2 w1 (w2 + (1 : Int32)))))))
def f6_seatOf_l2 (g : Sg) : Nat → Int32 → Int32 → Option Int32
  | 0 => fun _ _ => none
  | k + 1 => f6_seatOf_b2 g (f6_seatOf_l2 g k)
def f6_seatOf (g : Sg) (a1 : Int32) : Option Int32 :=
  (f6_seatOf_l2 g NF a1 (0 : Int32))
set_option maxHeartbeats 4000000 in
set_option maxRecDepth 100000 in
theorem f6_seatOf_ok (l : Launch) (D : va_G) (cy : Nat → ClassId) (ad : Nat → Nat → Nat → Nat) (ns : List (Nat × Nat × Nat)) (M : Me) (t i : Nat) (hI : IsSeats cy ad ns t i) (g : Sg) (a1 : Int32) (r : Int32)  (hf : f6_seatOf g a1 = some r) : Ci l yX6_seatOf (.code yX6_seatOf cX6_seatOf 3 (some .int) :: tk_tb) { frames := 0, cells := 0, slots := 0, locals := 0 } D cy ad ns [.ref (ad t i 0), .int a1] (uI M t i g) r (uI M t i g) := by
  refine Ci.of (by decide) (Nat.le_of_ble_eq_true rfl) ?_
  intro p e s m below meth c ls hE hW hl
  obtain ⟨hx, hb, hr, hml, hown, hts, hlk, hK⟩ := hE
  have hA : ∀ q : Nat, s.heap.size ≤ q → Aw ad ns s.heap.size q := fun q h => Or.inr h
  have hl : lv_has ls 3 [(0, .ref (ad t i 0)), (1, .int a1)] := hl
  unfold f6_seatOf at hf
  refine lv_iconst (v := 0) hx hb dX6_seatOf_0 (by decide) ?_
  refine lv_istore_n (lv' := [(2, .int (0 : Int32)), (0, .ref (ad t i 0)), (1, .int a1)]) hx hb dX6_seatOf_1 rfl hl (by decide) rfl (fun ls hl => ?_)
  have L2 : ∀ (k : Nat) (w1 : Int32) (w2 : Int32) (H : Heap) (locs : List Loc) (ls : Array Slot), f6_seatOf_l2 g k w1 w2 = some r → Wl D cy ad ns (Aw ad ns s.heap.size) s.heap (uI M t i g) H locs → lv_has ls 3 [(0, .ref (ad t i 0)), (1, .int w1), (2, .int w2)] → W p l e { frames := 0, cells := 0, slots := 0, locals := 0 } s m ([.ref (ad t i 0), .int a1] : List Value).toArray below meth c H locs 0 0 (QI below D cy ad ns [.ref (ad t i 0), .int a1] s r (uI M t i g)) (F0 m 2 ls []) := by
    intro k
    induction k with
    | zero => intro w1 w2 H locs ls hf; exact absurd hf (by simp [f6_seatOf_l2])
    | succ k2 ih2 =>
      intro w1 w2 H locs ls hf hW hl
      have hf : f6_seatOf_b2 g (f6_seatOf_l2 g k2) w1 w2 = some r := hf
      unfold f6_seatOf_b2 at hf
      refine lv_iload_n hx hb dX6_seatOf_2 rfl (lv_at hl 2 rfl) ?_
      refine lv_aload_n hx hb dX6_seatOf_3 rfl (lv_at hl 0 rfl) ?_
      refine x_get hx hb hts hown hK hW (hI.2 0 (by decide)) uI_o (hI.1 0 _) rfl inX6 8 (by decide) t_51 rfl dX6_seatOf_4 ?_
      refine lv_icmp_ge (tgt := 28) hx hb dX6_seatOf_7 (by decide) (fun c1 => ?_) (fun c1 => ?_)
      · replace hf := (if_pos c1).symm.trans hf
        refine lv_iconst (v := -1) hx hb dX6_seatOf_28 (by decide) ?_
        exact x_iret hx hb hr hlk hK hW (Option.some.inj hf) rfl dX6_seatOf_29
      · replace hf := (if_neg c1).symm.trans hf
        refine lv_aload_n hx hb dX6_seatOf_10 rfl (lv_at hl 0 rfl) ?_
        refine x_get hx hb hts hown hK hW (hI.2 0 (by decide)) uI_o (hI.1 0 _) rfl inX6 1 (by decide) t_44 rfl dX6_seatOf_11 ?_
        refine lv_iload_n hx hb dX6_seatOf_14 rfl (lv_at hl 2 rfl) ?_
        obtain ⟨hi2, hf⟩ := rd_some hf
        refine x_iald hx hb hK hW (hI.2 1 (by decide)) uI_o (hI.1 1 _) hi2 dX6_seatOf_15 ?_
        generalize g 1 (w2).toNatClampNeg = v3 at hf ⊢
        refine lv_iload_n hx hb dX6_seatOf_16 rfl (lv_at hl 1 rfl) ?_
        refine lv_icmp_ne (tgt := 22) hx hb dX6_seatOf_17 (by decide) (fun c4 => ?_) (fun c4 => ?_)
        · replace hf := (if_neg c4).symm.trans hf
          refine lv_iinc (v := (w2 + (1 : Int32))) (lv' := [(2, .int (w2 + (1 : Int32))), (0, .ref (ad t i 0)), (1, .int w1)]) hx hb dX6_seatOf_22 hl (k := 2) rfl (by first | rfl | decide) (by decide) rfl (fun ls hl => ?_)
          refine lv_goto (tgt := 2) hx hb dX6_seatOf_25 (by decide) ?_
          exact ih2 _ _ _ _ _ hf hW (lv_sub hl [1, 2, 0] rfl)
        · replace hf := (if_pos c4).symm.trans hf
          refine lv_iload_n hx hb dX6_seatOf_20 rfl (lv_at hl 2 rfl) ?_
          exact x_iret hx hb hr hlk hK hW (Option.some.inj hf) rfl dX6_seatOf_21
  exact L2 NF _ _ _ _ _ hf hW (lv_sub hl [1, 2, 0] rfl)
def f6_nextSeat (g : Sg) (a1 : Int32) : Option Int32 :=
  (if (g 0 7) ≤ (a1 + (1 : Int32)) then (some (0 : Int32)) else (some (a1 + (1 : Int32))))
set_option maxHeartbeats 4000000 in
set_option maxRecDepth 100000 in
theorem f6_nextSeat_ok (l : Launch) (D : va_G) (cy : Nat → ClassId) (ad : Nat → Nat → Nat → Nat) (ns : List (Nat × Nat × Nat)) (M : Me) (t i : Nat) (hI : IsSeats cy ad ns t i) (g : Sg) (a1 : Int32) (r : Int32)  (hf : f6_nextSeat g a1 = some r) : Ci l yX6_nextSeat (.code yX6_nextSeat cX6_nextSeat 2 (some .int) :: tk_tb) { frames := 0, cells := 0, slots := 0, locals := 0 } D cy ad ns [.ref (ad t i 0), .int a1] (uI M t i g) r (uI M t i g) := by
  refine Ci.of (by decide) (Nat.le_of_ble_eq_true rfl) ?_
  intro p e s m below meth c ls hE hW hl
  obtain ⟨hx, hb, hr, hml, hown, hts, hlk, hK⟩ := hE
  have hA : ∀ q : Nat, s.heap.size ≤ q → Aw ad ns s.heap.size q := fun q h => Or.inr h
  have hl : lv_has ls 2 [(0, .ref (ad t i 0)), (1, .int a1)] := hl
  unfold f6_nextSeat at hf
  refine lv_iload_n hx hb dX6_nextSeat_0 rfl (lv_at hl 1 rfl) ?_
  refine lv_iconst (v := 1) hx hb dX6_nextSeat_1 (by decide) ?_
  refine lv_iadd hx hb dX6_nextSeat_2 ?_
  refine lv_aload_n hx hb dX6_nextSeat_3 rfl (lv_at hl 0 rfl) ?_
  refine x_get hx hb hts hown hK hW (hI.2 0 (by decide)) uI_o (hI.1 0 _) rfl inX6 7 (by decide) t_50 rfl dX6_nextSeat_4 ?_
  refine lv_icmp_ge (tgt := 16) hx hb dX6_nextSeat_7 (by decide) (fun c1 => ?_) (fun c1 => ?_)
  · replace hf := (if_pos c1).symm.trans hf
    refine lv_iconst (v := 0) hx hb dX6_nextSeat_16 (by decide) ?_
    exact x_iret hx hb hr hlk hK hW (Option.some.inj hf) rfl dX6_nextSeat_17
  · replace hf := (if_neg c1).symm.trans hf
    refine lv_iload_n hx hb dX6_nextSeat_10 rfl (lv_at hl 1 rfl) ?_
    refine lv_iconst (v := 1) hx hb dX6_nextSeat_11 (by decide) ?_
    refine lv_iadd hx hb dX6_nextSeat_12 ?_
    refine lv_goto (tgt := 17) hx hb dX6_nextSeat_13 (by decide) ?_
    exact x_iret hx hb hr hlk hK hW (Option.some.inj hf) rfl dX6_nextSeat_17
def f6_goesBefore (g : Sg) (a1 : Int32) (a2 : Int32) : Option Int32 :=
  (if (g 0 0) = 1 then (rd 30 (g 2) a1 (fun v3 => (rd 30 (g 2) a2 (fun v5 => (if v5 ≤ v3 then (some (0 : Int32)) else (some (1 : Int32))))))) else (if (g 0 0) = 2 then (rd 30 (g 3) a1 (fun v9 => (rd 30 (g 3) a2 (fun v11 => (if v11 ≤ v9 then (some (0 : Int32)) else (some (1 : Int32))))))) else (if (g 0 0) = 3 then (rd 30 (g 4) a1 (fun v15 => (rd 30 (g 4) a2 (fun v17 => (if v15 < v17 then (some (1 : Int32)) else (rd 30 (g 4) a1 (fun v20 => (rd 30 (g 4) a2 (fun v22 => (if v20 = v22 then (rd 30 (g 3) a1 (fun v25 => (rd 30 (g 3) a2 (fun v27 => (if v27 ≤ v25 then (some (0 : Int32)) else (some (1 : Int32))))))) else (some (0 : Int32)))))))))))) else (if (g 0 0) = 4 then (rd 30 (g 5) a1 (fun v31 => (rd 30 (g 5) a2 (fun v33 => (if v33 < v31 then (some (1 : Int32)) else (rd 30 (g 5) a1 (fun v36 => (rd 30 (g 5) a2 (fun v38 => (if v36 = v38 then (rd 30 (g 1) a1 (fun v41 => (rd 30 (g 1) a2 (fun v43 => (if v43 ≤ v41 then (some (0 : Int32)) else (some (1 : Int32))))))) else (some (0 : Int32)))))))))))) else (rd 30 (g 3) a1 (fun v46 => (rd 30 (g 3) a2 (fun v48 => (if v48 ≤ v46 then (some (0 : Int32)) else (some (1 : Int32)))))))))))
set_option maxHeartbeats 4000000 in
set_option maxRecDepth 100000 in
theorem f6_goesBefore_ok (l : Launch) (D : va_G) (cy : Nat → ClassId) (ad : Nat → Nat → Nat → Nat) (ns : List (Nat × Nat × Nat)) (M : Me) (t i : Nat) (hI : IsSeats cy ad ns t i) (g : Sg) (a1 : Int32) (a2 : Int32) (r : Int32)  (hf : f6_goesBefore g a1 a2 = some r) : Ci l yX6_goesBefore (.code yX6_goesBefore cX6_goesBefore 3 (some .boolean) :: tk_tb) { frames := 0, cells := 0, slots := 0, locals := 0 } D cy ad ns [.ref (ad t i 0), .int a1, .int a2] (uI M t i g) r (uI M t i g) := by
  refine Ci.of (by decide) (Nat.le_of_ble_eq_true rfl) ?_
  intro p e s m below meth c ls hE hW hl
  obtain ⟨hx, hb, hr, hml, hown, hts, hlk, hK⟩ := hE
  have hA : ∀ q : Nat, s.heap.size ≤ q → Aw ad ns s.heap.size q := fun q h => Or.inr h
  have hl : lv_has ls 3 [(0, .ref (ad t i 0)), (1, .int a1), (2, .int a2)] := hl
  unfold f6_goesBefore at hf
  refine lv_aload_n hx hb dX6_goesBefore_0 rfl (lv_at hl 0 rfl) ?_
  refine x_get hx hb hts hown hK hW (hI.2 0 (by decide)) uI_o (hI.1 0 _) rfl inX6 0 (by decide) t_43 rfl dX6_goesBefore_1 ?_
  by_cases c1 : (g 0 0) = 1
  · replace hf := (if_pos c1).symm.trans hf
    refine x_tab (v := 1) c1 hx hb dX6_goesBefore_4 (by decide) (by decide) rfl (by decide) (tgt := 36) ?_
    refine lv_aload_n hx hb dX6_goesBefore_36 rfl (lv_at hl 0 rfl) ?_
    refine x_get hx hb hts hown hK hW (hI.2 0 (by decide)) uI_o (hI.1 0 _) rfl inX6 2 (by decide) t_45 rfl dX6_goesBefore_37 ?_
    refine lv_iload_n hx hb dX6_goesBefore_40 rfl (lv_at hl 1 rfl) ?_
    obtain ⟨hi2, hf⟩ := rd_some hf
    refine x_iald hx hb hK hW (hI.2 2 (by decide)) uI_o (hI.1 2 _) hi2 dX6_goesBefore_41 ?_
    generalize g 2 (a1).toNatClampNeg = v3 at hf ⊢
    refine lv_aload_n hx hb dX6_goesBefore_42 rfl (lv_at hl 0 rfl) ?_
    refine x_get hx hb hts hown hK hW (hI.2 0 (by decide)) uI_o (hI.1 0 _) rfl inX6 2 (by decide) t_45 rfl dX6_goesBefore_43 ?_
    refine lv_iload_n hx hb dX6_goesBefore_46 rfl (lv_at hl 2 rfl) ?_
    obtain ⟨hi4, hf⟩ := rd_some hf
    refine x_iald hx hb hK hW (hI.2 2 (by decide)) uI_o (hI.1 2 _) hi4 dX6_goesBefore_47 ?_
    generalize g 2 (a2).toNatClampNeg = v5 at hf ⊢
    refine lv_icmp_ge (tgt := 55) hx hb dX6_goesBefore_48 (by decide) (fun c6 => ?_) (fun c6 => ?_)
    · replace hf := (if_pos c6).symm.trans hf
      refine lv_iconst (v := 0) hx hb dX6_goesBefore_55 (by decide) ?_
      exact x_zret hx hb hr hlk (by first | decide | rfl) hK hW (Option.some.inj hf) rfl dX6_goesBefore_56
    · replace hf := (if_neg c6).symm.trans hf
      refine lv_iconst (v := 1) hx hb dX6_goesBefore_51 (by decide) ?_
      refine lv_goto (tgt := 56) hx hb dX6_goesBefore_52 (by decide) ?_
      exact x_zret hx hb hr hlk (by first | decide | rfl) hK hW (Option.some.inj hf) rfl dX6_goesBefore_56
  · replace hf := (if_neg c1).symm.trans hf
    by_cases c7 : (g 0 0) = 2
    · replace hf := (if_pos c7).symm.trans hf
      refine x_tab (v := 2) c7 hx hb dX6_goesBefore_4 (by decide) (by decide) rfl (by decide) (tgt := 159) ?_
      refine lv_aload_n hx hb dX6_goesBefore_159 rfl (lv_at hl 0 rfl) ?_
      refine x_get hx hb hts hown hK hW (hI.2 0 (by decide)) uI_o (hI.1 0 _) rfl inX6 3 (by decide) t_46 rfl dX6_goesBefore_160 ?_
      refine lv_iload_n hx hb dX6_goesBefore_163 rfl (lv_at hl 1 rfl) ?_
      obtain ⟨hi8, hf⟩ := rd_some hf
      refine x_iald hx hb hK hW (hI.2 3 (by decide)) uI_o (hI.1 3 _) hi8 dX6_goesBefore_164 ?_
      generalize g 3 (a1).toNatClampNeg = v9 at hf ⊢
      refine lv_aload_n hx hb dX6_goesBefore_165 rfl (lv_at hl 0 rfl) ?_
      refine x_get hx hb hts hown hK hW (hI.2 0 (by decide)) uI_o (hI.1 0 _) rfl inX6 3 (by decide) t_46 rfl dX6_goesBefore_166 ?_
      refine lv_iload_n hx hb dX6_goesBefore_169 rfl (lv_at hl 2 rfl) ?_
      obtain ⟨hi10, hf⟩ := rd_some hf
      refine x_iald hx hb hK hW (hI.2 3 (by decide)) uI_o (hI.1 3 _) hi10 dX6_goesBefore_170 ?_
      generalize g 3 (a2).toNatClampNeg = v11 at hf ⊢
      refine lv_icmp_ge (tgt := 178) hx hb dX6_goesBefore_171 (by decide) (fun c12 => ?_) (fun c12 => ?_)
      · replace hf := (if_pos c12).symm.trans hf
        refine lv_iconst (v := 0) hx hb dX6_goesBefore_178 (by decide) ?_
        exact x_zret hx hb hr hlk (by first | decide | rfl) hK hW (Option.some.inj hf) rfl dX6_goesBefore_179
      · replace hf := (if_neg c12).symm.trans hf
        refine lv_iconst (v := 1) hx hb dX6_goesBefore_174 (by decide) ?_
        refine lv_goto (tgt := 179) hx hb dX6_goesBefore_175 (by decide) ?_
        exact x_zret hx hb hr hlk (by first | decide | rfl) hK hW (Option.some.inj hf) rfl dX6_goesBefore_179
    · replace hf := (if_neg c7).symm.trans hf
      by_cases c13 : (g 0 0) = 3
      · replace hf := (if_pos c13).symm.trans hf
        refine x_tab (v := 3) c13 hx hb dX6_goesBefore_4 (by decide) (by decide) rfl (by decide) (tgt := 57) ?_
        refine lv_aload_n hx hb dX6_goesBefore_57 rfl (lv_at hl 0 rfl) ?_
        refine x_get hx hb hts hown hK hW (hI.2 0 (by decide)) uI_o (hI.1 0 _) rfl inX6 4 (by decide) t_47 rfl dX6_goesBefore_58 ?_
        refine lv_iload_n hx hb dX6_goesBefore_61 rfl (lv_at hl 1 rfl) ?_
        obtain ⟨hi14, hf⟩ := rd_some hf
        refine x_iald hx hb hK hW (hI.2 4 (by decide)) uI_o (hI.1 4 _) hi14 dX6_goesBefore_62 ?_
        generalize g 4 (a1).toNatClampNeg = v15 at hf ⊢
        refine lv_aload_n hx hb dX6_goesBefore_63 rfl (lv_at hl 0 rfl) ?_
        refine x_get hx hb hts hown hK hW (hI.2 0 (by decide)) uI_o (hI.1 0 _) rfl inX6 4 (by decide) t_47 rfl dX6_goesBefore_64 ?_
        refine lv_iload_n hx hb dX6_goesBefore_67 rfl (lv_at hl 2 rfl) ?_
        obtain ⟨hi16, hf⟩ := rd_some hf
        refine x_iald hx hb hK hW (hI.2 4 (by decide)) uI_o (hI.1 4 _) hi16 dX6_goesBefore_68 ?_
        generalize g 4 (a2).toNatClampNeg = v17 at hf ⊢
        refine lv_icmp_lt (tgt := 102) hx hb dX6_goesBefore_69 (by decide) (fun c18 => ?_) (fun c18 => ?_)
        · replace hf := (if_pos c18).symm.trans hf
          refine lv_iconst (v := 1) hx hb dX6_goesBefore_102 (by decide) ?_
          refine lv_goto (tgt := 107) hx hb dX6_goesBefore_103 (by decide) ?_
          exact x_zret hx hb hr hlk (by first | decide | rfl) hK hW (Option.some.inj hf) rfl dX6_goesBefore_107
        · replace hf := (if_neg c18).symm.trans hf
          refine lv_aload_n hx hb dX6_goesBefore_72 rfl (lv_at hl 0 rfl) ?_
          refine x_get hx hb hts hown hK hW (hI.2 0 (by decide)) uI_o (hI.1 0 _) rfl inX6 4 (by decide) t_47 rfl dX6_goesBefore_73 ?_
          refine lv_iload_n hx hb dX6_goesBefore_76 rfl (lv_at hl 1 rfl) ?_
          obtain ⟨hi19, hf⟩ := rd_some hf
          refine x_iald hx hb hK hW (hI.2 4 (by decide)) uI_o (hI.1 4 _) hi19 dX6_goesBefore_77 ?_
          generalize g 4 (a1).toNatClampNeg = v20 at hf ⊢
          refine lv_aload_n hx hb dX6_goesBefore_78 rfl (lv_at hl 0 rfl) ?_
          refine x_get hx hb hts hown hK hW (hI.2 0 (by decide)) uI_o (hI.1 0 _) rfl inX6 4 (by decide) t_47 rfl dX6_goesBefore_79 ?_
          refine lv_iload_n hx hb dX6_goesBefore_82 rfl (lv_at hl 2 rfl) ?_
          obtain ⟨hi21, hf⟩ := rd_some hf
          refine x_iald hx hb hK hW (hI.2 4 (by decide)) uI_o (hI.1 4 _) hi21 dX6_goesBefore_83 ?_
          generalize g 4 (a2).toNatClampNeg = v22 at hf ⊢
          refine lv_icmp_ne (tgt := 106) hx hb dX6_goesBefore_84 (by decide) (fun c23 => ?_) (fun c23 => ?_)
          · replace hf := (if_neg c23).symm.trans hf
            refine lv_iconst (v := 0) hx hb dX6_goesBefore_106 (by decide) ?_
            exact x_zret hx hb hr hlk (by first | decide | rfl) hK hW (Option.some.inj hf) rfl dX6_goesBefore_107
          · replace hf := (if_pos c23).symm.trans hf
            refine lv_aload_n hx hb dX6_goesBefore_87 rfl (lv_at hl 0 rfl) ?_
            refine x_get hx hb hts hown hK hW (hI.2 0 (by decide)) uI_o (hI.1 0 _) rfl inX6 3 (by decide) t_46 rfl dX6_goesBefore_88 ?_
            refine lv_iload_n hx hb dX6_goesBefore_91 rfl (lv_at hl 1 rfl) ?_
            obtain ⟨hi24, hf⟩ := rd_some hf
            refine x_iald hx hb hK hW (hI.2 3 (by decide)) uI_o (hI.1 3 _) hi24 dX6_goesBefore_92 ?_
            generalize g 3 (a1).toNatClampNeg = v25 at hf ⊢
            refine lv_aload_n hx hb dX6_goesBefore_93 rfl (lv_at hl 0 rfl) ?_
            refine x_get hx hb hts hown hK hW (hI.2 0 (by decide)) uI_o (hI.1 0 _) rfl inX6 3 (by decide) t_46 rfl dX6_goesBefore_94 ?_
            refine lv_iload_n hx hb dX6_goesBefore_97 rfl (lv_at hl 2 rfl) ?_
            obtain ⟨hi26, hf⟩ := rd_some hf
            refine x_iald hx hb hK hW (hI.2 3 (by decide)) uI_o (hI.1 3 _) hi26 dX6_goesBefore_98 ?_
            generalize g 3 (a2).toNatClampNeg = v27 at hf ⊢
            refine lv_icmp_ge (tgt := 106) hx hb dX6_goesBefore_99 (by decide) (fun c28 => ?_) (fun c28 => ?_)
            · replace hf := (if_pos c28).symm.trans hf
              refine lv_iconst (v := 0) hx hb dX6_goesBefore_106 (by decide) ?_
              exact x_zret hx hb hr hlk (by first | decide | rfl) hK hW (Option.some.inj hf) rfl dX6_goesBefore_107
            · replace hf := (if_neg c28).symm.trans hf
              refine lv_iconst (v := 1) hx hb dX6_goesBefore_102 (by decide) ?_
              refine lv_goto (tgt := 107) hx hb dX6_goesBefore_103 (by decide) ?_
              exact x_zret hx hb hr hlk (by first | decide | rfl) hK hW (Option.some.inj hf) rfl dX6_goesBefore_107
      · replace hf := (if_neg c13).symm.trans hf
        by_cases c29 : (g 0 0) = 4
        · replace hf := (if_pos c29).symm.trans hf
          refine x_tab (v := 4) c29 hx hb dX6_goesBefore_4 (by decide) (by decide) rfl (by decide) (tgt := 108) ?_
          refine lv_aload_n hx hb dX6_goesBefore_108 rfl (lv_at hl 0 rfl) ?_
          refine x_get hx hb hts hown hK hW (hI.2 0 (by decide)) uI_o (hI.1 0 _) rfl inX6 5 (by decide) t_48 rfl dX6_goesBefore_109 ?_
          refine lv_iload_n hx hb dX6_goesBefore_112 rfl (lv_at hl 1 rfl) ?_
          obtain ⟨hi30, hf⟩ := rd_some hf
          refine x_iald hx hb hK hW (hI.2 5 (by decide)) uI_o (hI.1 5 _) hi30 dX6_goesBefore_113 ?_
          generalize g 5 (a1).toNatClampNeg = v31 at hf ⊢
          refine lv_aload_n hx hb dX6_goesBefore_114 rfl (lv_at hl 0 rfl) ?_
          refine x_get hx hb hts hown hK hW (hI.2 0 (by decide)) uI_o (hI.1 0 _) rfl inX6 5 (by decide) t_48 rfl dX6_goesBefore_115 ?_
          refine lv_iload_n hx hb dX6_goesBefore_118 rfl (lv_at hl 2 rfl) ?_
          obtain ⟨hi32, hf⟩ := rd_some hf
          refine x_iald hx hb hK hW (hI.2 5 (by decide)) uI_o (hI.1 5 _) hi32 dX6_goesBefore_119 ?_
          generalize g 5 (a2).toNatClampNeg = v33 at hf ⊢
          refine lv_icmp_gt (tgt := 153) hx hb dX6_goesBefore_120 (by decide) (fun c34 => ?_) (fun c34 => ?_)
          · replace hf := (if_pos c34).symm.trans hf
            refine lv_iconst (v := 1) hx hb dX6_goesBefore_153 (by decide) ?_
            refine lv_goto (tgt := 158) hx hb dX6_goesBefore_154 (by decide) ?_
            exact x_zret hx hb hr hlk (by first | decide | rfl) hK hW (Option.some.inj hf) rfl dX6_goesBefore_158
          · replace hf := (if_neg c34).symm.trans hf
            refine lv_aload_n hx hb dX6_goesBefore_123 rfl (lv_at hl 0 rfl) ?_
            refine x_get hx hb hts hown hK hW (hI.2 0 (by decide)) uI_o (hI.1 0 _) rfl inX6 5 (by decide) t_48 rfl dX6_goesBefore_124 ?_
            refine lv_iload_n hx hb dX6_goesBefore_127 rfl (lv_at hl 1 rfl) ?_
            obtain ⟨hi35, hf⟩ := rd_some hf
            refine x_iald hx hb hK hW (hI.2 5 (by decide)) uI_o (hI.1 5 _) hi35 dX6_goesBefore_128 ?_
            generalize g 5 (a1).toNatClampNeg = v36 at hf ⊢
            refine lv_aload_n hx hb dX6_goesBefore_129 rfl (lv_at hl 0 rfl) ?_
            refine x_get hx hb hts hown hK hW (hI.2 0 (by decide)) uI_o (hI.1 0 _) rfl inX6 5 (by decide) t_48 rfl dX6_goesBefore_130 ?_
            refine lv_iload_n hx hb dX6_goesBefore_133 rfl (lv_at hl 2 rfl) ?_
            obtain ⟨hi37, hf⟩ := rd_some hf
            refine x_iald hx hb hK hW (hI.2 5 (by decide)) uI_o (hI.1 5 _) hi37 dX6_goesBefore_134 ?_
            generalize g 5 (a2).toNatClampNeg = v38 at hf ⊢
            refine lv_icmp_ne (tgt := 157) hx hb dX6_goesBefore_135 (by decide) (fun c39 => ?_) (fun c39 => ?_)
            · replace hf := (if_neg c39).symm.trans hf
              refine lv_iconst (v := 0) hx hb dX6_goesBefore_157 (by decide) ?_
              exact x_zret hx hb hr hlk (by first | decide | rfl) hK hW (Option.some.inj hf) rfl dX6_goesBefore_158
            · replace hf := (if_pos c39).symm.trans hf
              refine lv_aload_n hx hb dX6_goesBefore_138 rfl (lv_at hl 0 rfl) ?_
              refine x_get hx hb hts hown hK hW (hI.2 0 (by decide)) uI_o (hI.1 0 _) rfl inX6 1 (by decide) t_44 rfl dX6_goesBefore_139 ?_
              refine lv_iload_n hx hb dX6_goesBefore_142 rfl (lv_at hl 1 rfl) ?_
              obtain ⟨hi40, hf⟩ := rd_some hf
              refine x_iald hx hb hK hW (hI.2 1 (by decide)) uI_o (hI.1 1 _) hi40 dX6_goesBefore_143 ?_
              generalize g 1 (a1).toNatClampNeg = v41 at hf ⊢
              refine lv_aload_n hx hb dX6_goesBefore_144 rfl (lv_at hl 0 rfl) ?_
              refine x_get hx hb hts hown hK hW (hI.2 0 (by decide)) uI_o (hI.1 0 _) rfl inX6 1 (by decide) t_44 rfl dX6_goesBefore_145 ?_
              refine lv_iload_n hx hb dX6_goesBefore_148 rfl (lv_at hl 2 rfl) ?_
              obtain ⟨hi42, hf⟩ := rd_some hf
              refine x_iald hx hb hK hW (hI.2 1 (by decide)) uI_o (hI.1 1 _) hi42 dX6_goesBefore_149 ?_
              generalize g 1 (a2).toNatClampNeg = v43 at hf ⊢
              refine lv_icmp_ge (tgt := 157) hx hb dX6_goesBefore_150 (by decide) (fun c44 => ?_) (fun c44 => ?_)
              · replace hf := (if_pos c44).symm.trans hf
                refine lv_iconst (v := 0) hx hb dX6_goesBefore_157 (by decide) ?_
                exact x_zret hx hb hr hlk (by first | decide | rfl) hK hW (Option.some.inj hf) rfl dX6_goesBefore_158
              · replace hf := (if_neg c44).symm.trans hf
                refine lv_iconst (v := 1) hx hb dX6_goesBefore_153 (by decide) ?_
                refine lv_goto (tgt := 158) hx hb dX6_goesBefore_154 (by decide) ?_
                exact x_zret hx hb hr hlk (by first | decide | rfl) hK hW (Option.some.inj hf) rfl dX6_goesBefore_158
        · replace hf := (if_neg c29).symm.trans hf
          refine lv_tableOut (tgt := 159) hx hb dX6_goesBefore_4 (by have := ne_toInt (z := 1) (by decide) c1; have := ne_toInt (z := 2) (by decide) c7; have := ne_toInt (z := 3) (by decide) c13; have := ne_toInt (z := 4) (by decide) c29; omega) (by decide) ?_
          refine lv_aload_n hx hb dX6_goesBefore_159 rfl (lv_at hl 0 rfl) ?_
          refine x_get hx hb hts hown hK hW (hI.2 0 (by decide)) uI_o (hI.1 0 _) rfl inX6 3 (by decide) t_46 rfl dX6_goesBefore_160 ?_
          refine lv_iload_n hx hb dX6_goesBefore_163 rfl (lv_at hl 1 rfl) ?_
          obtain ⟨hi45, hf⟩ := rd_some hf
          refine x_iald hx hb hK hW (hI.2 3 (by decide)) uI_o (hI.1 3 _) hi45 dX6_goesBefore_164 ?_
          generalize g 3 (a1).toNatClampNeg = v46 at hf ⊢
          refine lv_aload_n hx hb dX6_goesBefore_165 rfl (lv_at hl 0 rfl) ?_
          refine x_get hx hb hts hown hK hW (hI.2 0 (by decide)) uI_o (hI.1 0 _) rfl inX6 3 (by decide) t_46 rfl dX6_goesBefore_166 ?_
          refine lv_iload_n hx hb dX6_goesBefore_169 rfl (lv_at hl 2 rfl) ?_
          obtain ⟨hi47, hf⟩ := rd_some hf
          refine x_iald hx hb hK hW (hI.2 3 (by decide)) uI_o (hI.1 3 _) hi47 dX6_goesBefore_170 ?_
          generalize g 3 (a2).toNatClampNeg = v48 at hf ⊢
          refine lv_icmp_ge (tgt := 178) hx hb dX6_goesBefore_171 (by decide) (fun c49 => ?_) (fun c49 => ?_)
          · replace hf := (if_pos c49).symm.trans hf
            refine lv_iconst (v := 0) hx hb dX6_goesBefore_178 (by decide) ?_
            exact x_zret hx hb hr hlk (by first | decide | rfl) hK hW (Option.some.inj hf) rfl dX6_goesBefore_179
          · replace hf := (if_neg c49).symm.trans hf
            refine lv_iconst (v := 1) hx hb dX6_goesBefore_174 (by decide) ?_
            refine lv_goto (tgt := 179) hx hb dX6_goesBefore_175 (by decide) ?_
            exact x_zret hx hb hr hlk (by first | decide | rfl) hK hW (Option.some.inj hf) rfl dX6_goesBefore_179
def f6_seatByHand_j50 (g : Sg) : Option (Int32 × Sg) :=
  ((f6_nextSeat g (g 0 9)).bind (fun r12 => (st (va_up g 0 (upd (g 0) 9 r12)) (fun g14 => (some ((g 0 9), g14))))))
def f6_seatByHand_b5 (rec5 : Int32 → Sg → Option (Int32 × Sg)) (w1 : Int32) (g : Sg) : Option (Int32 × Sg) :=
  (if w1 ≤ 0 then (f6_seatByHand_j50 g) else (rd 30 (g 6) (g 0 9) (fun v3 => (if v3 = (1 : Int32) then (wr 30 (g 0 9) (va_up g 6 (upd (g 6) ((g 0 9)).toNatClampNeg (0 : Int32))) (fun g6 => ((f6_nextSeat g6 (g6 0 9)).bind (fun r8 => (st (va_up g6 0 (upd (g6 0) 9 r8)) (fun g10 => (rec5 (w1 + (-1 : Int32)) g10))))))) else (f6_seatByHand_j50 g)))))
def f6_seatByHand_l5 : Nat → Int32 → Sg → Option (Int32 × Sg)
  | 0 => fun _ _ => none
  | k + 1 => f6_seatByHand_b5 (f6_seatByHand_l5 k)
def f6_seatByHand (g : Sg) : Option (Int32 × Sg) :=
  (f6_seatByHand_l5 NF (g 0 7) g)
set_option maxHeartbeats 4000000 in
set_option maxRecDepth 100000 in
theorem f6_seatByHand_ok (l : Launch) (D : va_G) (cy : Nat → ClassId) (ad : Nat → Nat → Nat → Nat) (ns : List (Nat × Nat × Nat)) (M : Me) (t i : Nat) (hI : IsSeats cy ad ns t i) (g : Sg) (r : Int32) (m2 : Sg)  (hf : f6_seatByHand g = some (r, m2)) : Ci l yX6_seatByHand (.code yX6_seatByHand cX6_seatByHand 2 (some .int) :: tk_tb) { frames := 1, cells := 0, slots := 0, locals := 21 } D cy ad ns [.ref (ad t i 0)] (uI M t i g) r (uI M t i m2) := by
  refine Ci.of (by decide) (Nat.le_of_ble_eq_true rfl) ?_
  intro p e s m below meth c ls hE hW hl
  obtain ⟨hx, hb, hr, hml, hown, hts, hlk, hK⟩ := hE
  have hA : ∀ q : Nat, s.heap.size ≤ q → Aw ad ns s.heap.size q := fun q h => Or.inr h
  have hl : lv_has ls 2 [(0, .ref (ad t i 0))] := hl
  unfold f6_seatByHand at hf
  have J50 : ∀ (g : Sg) (H : Heap) (locs : List Loc) (ls : Array Slot), f6_seatByHand_j50 g = some (r, m2) → Wl D cy ad ns (Aw ad ns s.heap.size) s.heap (uI M t i g) H locs → lv_has ls 2 [(0, .ref (ad t i 0))] → W p l e { frames := 1, cells := 0, slots := 0, locals := 21 } s m ([.ref (ad t i 0)] : List Value).toArray below meth c H locs 0 0 (QI below D cy ad ns [.ref (ad t i 0)] s r (uI M t i m2)) (F0 m 50 ls []) := by
    intro g H locs ls hf hW hl
    unfold f6_seatByHand_j50 at hf
    refine lv_aload_n hx hb dX6_seatByHand_50 rfl (lv_at hl 0 rfl) ?_
    refine x_get hx hb hts hown hK hW (hI.2 0 (by decide)) uI_o (hI.1 0 _) rfl inX6 9 (by decide) t_52 rfl dX6_seatByHand_51 ?_
    refine lv_istore_n (lv' := [(1, .int (g 0 9)), (0, .ref (ad t i 0))]) hx hb dX6_seatByHand_54 rfl hl (by decide) rfl (fun ls hl => ?_)
    refine lv_aload_n hx hb dX6_seatByHand_55 rfl (lv_at hl 1 rfl) ?_
    refine lv_aload_n hx hb dX6_seatByHand_56 rfl (lv_at hl 1 rfl) ?_
    refine lv_aload_n hx hb dX6_seatByHand_57 rfl (lv_at hl 1 rfl) ?_
    refine x_get hx hb hts hown hK hW (hI.2 0 (by decide)) uI_o (hI.1 0 _) rfl inX6 9 (by decide) t_52 rfl dX6_seatByHand_58 ?_
    obtain ⟨r12, hc11, hf⟩ := bd_some hf
    have hC13 := f6_nextSeat_ok l D cy ad ns M t i hI g (g 0 9) r12 hc11
    refine x_vi (n := 1) (As := [.int (g 0 9)]) (rest := [.ref (ad t i 0)]) hx hb hml hts hown hK hW hA hC13 (hI.2 0 (by decide)) uI_o (hI.1 0 _) rfl rfl t_633 t_635 p_20 t_4 t_636 rfl (by decide +kernel) rfl rfl ⟨Nat.le_of_ble_eq_true rfl, Nat.le_of_ble_eq_true rfl⟩ hl.1 rfl (lv_room (Nat.le_of_ble_eq_true rfl)) dX6_seatByHand_61 ⟨(Nat.le_of_ble_eq_true rfl), (Nat.le_of_ble_eq_true rfl)⟩ (fun H locs hW => ?_)
    replace hf := st_some hf
    refine x_put hx hb hts hown hK hW (hI.2 0 (by decide)) uI_o (hI.1 0 _) rfl inX6 tyX6 tyX6_ok nmX6 9 (by decide) t_52 rfl rfl (Nat.le_of_ble_eq_true rfl) (hI.1 0 _) uC_leaf dX6_seatByHand_64 (fun H locs hW => ?_)
    generalize (va_up g 0 (upd (g 0) 9 r12)) = g14 at hf hW
    refine lv_iload_n hx hb dX6_seatByHand_67 rfl (lv_at hl 0 rfl) ?_
    exact x_iret hx hb hr hlk hK hW (congrArg Prod.fst (Option.some.inj hf)) (congrArg (fun q => (uI M t i (Prod.snd q))) (Option.some.inj hf)) dX6_seatByHand_68
  refine lv_aload_n hx hb dX6_seatByHand_0 rfl (lv_at hl 0 rfl) ?_
  refine x_get hx hb hts hown hK hW (hI.2 0 (by decide)) uI_o (hI.1 0 _) rfl inX6 7 (by decide) t_50 rfl dX6_seatByHand_1 ?_
  refine lv_istore_n (lv' := [(1, .int (g 0 7)), (0, .ref (ad t i 0))]) hx hb dX6_seatByHand_4 rfl hl (by decide) rfl (fun ls hl => ?_)
  have L5 : ∀ (k : Nat) (w1 : Int32) (g : Sg) (H : Heap) (locs : List Loc) (ls : Array Slot), f6_seatByHand_l5 k w1 g = some (r, m2) → Wl D cy ad ns (Aw ad ns s.heap.size) s.heap (uI M t i g) H locs → lv_has ls 2 [(0, .ref (ad t i 0)), (1, .int w1)] → W p l e { frames := 1, cells := 0, slots := 0, locals := 21 } s m ([.ref (ad t i 0)] : List Value).toArray below meth c H locs 0 0 (QI below D cy ad ns [.ref (ad t i 0)] s r (uI M t i m2)) (F0 m 5 ls []) := by
    intro k
    induction k with
    | zero => intro w1 g H locs ls hf; exact absurd hf (by simp [f6_seatByHand_l5])
    | succ k5 ih5 =>
      intro w1 g H locs ls hf hW hl
      have hf : f6_seatByHand_b5 (f6_seatByHand_l5 k5) w1 g = some (r, m2) := hf
      unfold f6_seatByHand_b5 at hf
      refine lv_iload_n hx hb dX6_seatByHand_5 rfl (lv_at hl 1 rfl) ?_
      refine lv_if_le (tgt := 50) hx hb dX6_seatByHand_6 (by decide) (fun c1 => ?_) (fun c1 => ?_)
      · replace hf := (if_pos c1).symm.trans hf
        exact J50 _ _ _ _ hf hW (lv_sub hl [0] rfl)
      · replace hf := (if_neg c1).symm.trans hf
        refine lv_aload_n hx hb dX6_seatByHand_9 rfl (lv_at hl 0 rfl) ?_
        refine x_get hx hb hts hown hK hW (hI.2 0 (by decide)) uI_o (hI.1 0 _) rfl inX6 6 (by decide) t_49 rfl dX6_seatByHand_10 ?_
        refine lv_aload_n hx hb dX6_seatByHand_13 rfl (lv_at hl 0 rfl) ?_
        refine x_get hx hb hts hown hK hW (hI.2 0 (by decide)) uI_o (hI.1 0 _) rfl inX6 9 (by decide) t_52 rfl dX6_seatByHand_14 ?_
        obtain ⟨hi2, hf⟩ := rd_some hf
        refine x_iald hx hb hK hW (hI.2 6 (by decide)) uI_o (hI.1 6 _) hi2 dX6_seatByHand_17 ?_
        generalize g 6 ((g 0 9)).toNatClampNeg = v3 at hf ⊢
        refine lv_iconst (v := 1) hx hb dX6_seatByHand_18 (by decide) ?_
        refine lv_icmp_ne (tgt := 50) hx hb dX6_seatByHand_19 (by decide) (fun c4 => ?_) (fun c4 => ?_)
        · replace hf := (if_neg c4).symm.trans hf
          exact J50 _ _ _ _ hf hW (lv_sub hl [0] rfl)
        · replace hf := (if_pos c4).symm.trans hf
          refine lv_aload_n hx hb dX6_seatByHand_22 rfl (lv_at hl 0 rfl) ?_
          refine x_get hx hb hts hown hK hW (hI.2 0 (by decide)) uI_o (hI.1 0 _) rfl inX6 6 (by decide) t_49 rfl dX6_seatByHand_23 ?_
          refine lv_aload_n hx hb dX6_seatByHand_26 rfl (lv_at hl 0 rfl) ?_
          refine x_get hx hb hts hown hK hW (hI.2 0 (by decide)) uI_o (hI.1 0 _) rfl inX6 9 (by decide) t_52 rfl dX6_seatByHand_27 ?_
          refine lv_iconst (v := 0) hx hb dX6_seatByHand_30 (by decide) ?_
          obtain ⟨hi5, hf⟩ := wr_some hf
          refine x_iast hx hb hK hW (hI.2 6 (by decide)) uI_o (fun _ => (hI.1 6 _)) hi5 uC_leaf dX6_seatByHand_31 (fun H locs hW => ?_)
          generalize (va_up g 6 (upd (g 6) ((g 0 9)).toNatClampNeg (0 : Int32))) = g6 at hf hW
          refine lv_aload_n hx hb dX6_seatByHand_32 rfl (lv_at hl 0 rfl) ?_
          refine lv_aload_n hx hb dX6_seatByHand_33 rfl (lv_at hl 0 rfl) ?_
          refine lv_aload_n hx hb dX6_seatByHand_34 rfl (lv_at hl 0 rfl) ?_
          refine x_get hx hb hts hown hK hW (hI.2 0 (by decide)) uI_o (hI.1 0 _) rfl inX6 9 (by decide) t_52 rfl dX6_seatByHand_35 ?_
          obtain ⟨r8, hc7, hf⟩ := bd_some hf
          have hC9 := f6_nextSeat_ok l D cy ad ns M t i hI g6 (g6 0 9) r8 hc7
          refine x_vi (n := 1) (As := [.int (g6 0 9)]) (rest := [.ref (ad t i 0)]) hx hb hml hts hown hK hW hA hC9 (hI.2 0 (by decide)) uI_o (hI.1 0 _) rfl rfl t_633 t_635 p_20 t_4 t_636 rfl (by decide +kernel) rfl rfl ⟨Nat.le_of_ble_eq_true rfl, Nat.le_of_ble_eq_true rfl⟩ hl.1 rfl (lv_room (Nat.le_of_ble_eq_true rfl)) dX6_seatByHand_38 ⟨(Nat.le_of_ble_eq_true rfl), (Nat.le_of_ble_eq_true rfl)⟩ (fun H locs hW => ?_)
          replace hf := st_some hf
          refine x_put hx hb hts hown hK hW (hI.2 0 (by decide)) uI_o (hI.1 0 _) rfl inX6 tyX6 tyX6_ok nmX6 9 (by decide) t_52 rfl rfl (Nat.le_of_ble_eq_true rfl) (hI.1 0 _) uC_leaf dX6_seatByHand_41 (fun H locs hW => ?_)
          generalize (va_up g6 0 (upd (g6 0) 9 r8)) = g10 at hf hW
          refine lv_iinc (v := (w1 + (-1 : Int32))) (lv' := [(1, .int (w1 + (-1 : Int32))), (0, .ref (ad t i 0))]) hx hb dX6_seatByHand_44 hl (k := 1) rfl (by first | rfl | decide) (by decide) rfl (fun ls hl => ?_)
          refine lv_goto (tgt := 5) hx hb dX6_seatByHand_47 (by decide) ?_
          exact ih5 _ _ _ _ _ hf hW (lv_sub hl [1, 0] rfl)
  exact L5 NF _ _ _ _ _ hf hW (lv_sub hl [1, 0] rfl)
def f6_seatByRank_b4 (g : Sg) (rec4 : Int32 → Int32 → Option Int32) (w1 : Int32) (w2 : Int32) : Option Int32 :=
  (if (g 0 8) ≤ w2 then (some w1) else ((f6_goesBefore g w2 w1).bind (fun r3 => (if r3 = 0 then (rec4 w1 (w2 + (1 : Int32))) else (rec4 w2 (w2 + (1 : Int32)))))))
def f6_seatByRank_l4 (g : Sg) : Nat → Int32 → Int32 → Option Int32
  | 0 => fun _ _ => none
  | k + 1 => f6_seatByRank_b4 g (f6_seatByRank_l4 g k)
def f6_seatByRank (g : Sg) : Option Int32 :=
  (f6_seatByRank_l4 g NF (0 : Int32) (1 : Int32))
set_option maxHeartbeats 4000000 in
set_option maxRecDepth 100000 in
theorem f6_seatByRank_ok (l : Launch) (D : va_G) (cy : Nat → ClassId) (ad : Nat → Nat → Nat → Nat) (ns : List (Nat × Nat × Nat)) (M : Me) (t i : Nat) (hI : IsSeats cy ad ns t i) (g : Sg) (r : Int32)  (hf : f6_seatByRank g = some r) : Ci l yX6_seatByRank (.code yX6_seatByRank cX6_seatByRank 3 (some .int) :: tk_tb) { frames := 1, cells := 0, slots := 0, locals := 22 } D cy ad ns [.ref (ad t i 0)] (uI M t i g) r (uI M t i g) := by
  refine Ci.of (by decide) (Nat.le_of_ble_eq_true rfl) ?_
  intro p e s m below meth c ls hE hW hl
  obtain ⟨hx, hb, hr, hml, hown, hts, hlk, hK⟩ := hE
  have hA : ∀ q : Nat, s.heap.size ≤ q → Aw ad ns s.heap.size q := fun q h => Or.inr h
  have hl : lv_has ls 3 [(0, .ref (ad t i 0))] := hl
  unfold f6_seatByRank at hf
  refine lv_iconst (v := 0) hx hb dX6_seatByRank_0 (by decide) ?_
  refine lv_istore_n (lv' := [(1, .int (0 : Int32)), (0, .ref (ad t i 0))]) hx hb dX6_seatByRank_1 rfl hl (by decide) rfl (fun ls hl => ?_)
  refine lv_iconst (v := 1) hx hb dX6_seatByRank_2 (by decide) ?_
  refine lv_istore_n (lv' := [(2, .int (1 : Int32)), (1, .int (0 : Int32)), (0, .ref (ad t i 0))]) hx hb dX6_seatByRank_3 rfl hl (by decide) rfl (fun ls hl => ?_)
  have L4 : ∀ (k : Nat) (w1 : Int32) (w2 : Int32) (H : Heap) (locs : List Loc) (ls : Array Slot), f6_seatByRank_l4 g k w1 w2 = some r → Wl D cy ad ns (Aw ad ns s.heap.size) s.heap (uI M t i g) H locs → lv_has ls 3 [(0, .ref (ad t i 0)), (1, .int w1), (2, .int w2)] → W p l e { frames := 1, cells := 0, slots := 0, locals := 22 } s m ([.ref (ad t i 0)] : List Value).toArray below meth c H locs 0 0 (QI below D cy ad ns [.ref (ad t i 0)] s r (uI M t i g)) (F0 m 4 ls []) := by
    intro k
    induction k with
    | zero => intro w1 w2 H locs ls hf; exact absurd hf (by simp [f6_seatByRank_l4])
    | succ k4 ih4 =>
      intro w1 w2 H locs ls hf hW hl
      have hf : f6_seatByRank_b4 g (f6_seatByRank_l4 g k4) w1 w2 = some r := hf
      unfold f6_seatByRank_b4 at hf
      refine lv_iload_n hx hb dX6_seatByRank_4 rfl (lv_at hl 2 rfl) ?_
      refine lv_aload_n hx hb dX6_seatByRank_5 rfl (lv_at hl 0 rfl) ?_
      refine x_get hx hb hts hown hK hW (hI.2 0 (by decide)) uI_o (hI.1 0 _) rfl inX6 8 (by decide) t_51 rfl dX6_seatByRank_6 ?_
      refine lv_icmp_ge (tgt := 29) hx hb dX6_seatByRank_9 (by decide) (fun c1 => ?_) (fun c1 => ?_)
      · replace hf := (if_pos c1).symm.trans hf
        refine lv_iload_n hx hb dX6_seatByRank_29 rfl (lv_at hl 1 rfl) ?_
        exact x_iret hx hb hr hlk hK hW (Option.some.inj hf) rfl dX6_seatByRank_30
      · replace hf := (if_neg c1).symm.trans hf
        refine lv_aload_n hx hb dX6_seatByRank_12 rfl (lv_at hl 0 rfl) ?_
        refine lv_iload_n hx hb dX6_seatByRank_13 rfl (lv_at hl 2 rfl) ?_
        refine lv_iload_n hx hb dX6_seatByRank_14 rfl (lv_at hl 1 rfl) ?_
        obtain ⟨r3, hc2, hf⟩ := bd_some hf
        have hC4 := f6_goesBefore_ok l D cy ad ns M t i hI g w2 w1 r3 hc2
        refine x_vi (n := 2) (As := [.int w2, .int w1]) (rest := []) hx hb hml hts hown hK hW hA hC4 (hI.2 0 (by decide)) uI_o (hI.1 0 _) rfl rfl t_641 t_643 p_22 t_4 t_644 rfl (by decide +kernel) rfl rfl ⟨Nat.le_of_ble_eq_true rfl, Nat.le_of_ble_eq_true rfl⟩ hl.1 rfl (lv_room (Nat.le_of_ble_eq_true rfl)) dX6_seatByRank_15 ⟨(Nat.le_of_ble_eq_true rfl), (Nat.le_of_ble_eq_true rfl)⟩ (fun H locs hW => ?_)
        refine lv_if_eq (tgt := 23) hx hb dX6_seatByRank_18 (by decide) (fun c5 => ?_) (fun c5 => ?_)
        · replace hf := (if_pos c5).symm.trans hf
          refine lv_iinc (v := (w2 + (1 : Int32))) (lv' := [(2, .int (w2 + (1 : Int32))), (0, .ref (ad t i 0)), (1, .int w1)]) hx hb dX6_seatByRank_23 hl (k := 2) rfl (by first | rfl | decide) (by decide) rfl (fun ls hl => ?_)
          refine lv_goto (tgt := 4) hx hb dX6_seatByRank_26 (by decide) ?_
          exact ih4 _ _ _ _ _ hf hW (lv_sub hl [1, 2, 0] rfl)
        · replace hf := (if_neg c5).symm.trans hf
          refine lv_iload_n hx hb dX6_seatByRank_21 rfl (lv_at hl 2 rfl) ?_
          refine lv_istore_n (lv' := [(1, .int w2), (0, .ref (ad t i 0)), (2, .int w2)]) hx hb dX6_seatByRank_22 rfl hl (by decide) rfl (fun ls hl => ?_)
          refine lv_iinc (v := (w2 + (1 : Int32))) (lv' := [(2, .int (w2 + (1 : Int32))), (1, .int w2), (0, .ref (ad t i 0))]) hx hb dX6_seatByRank_23 hl (k := 2) rfl (by first | rfl | decide) (by decide) rfl (fun ls hl => ?_)
          refine lv_goto (tgt := 4) hx hb dX6_seatByRank_26 (by decide) ?_
          exact ih4 _ _ _ _ _ hf hW (lv_sub hl [2, 1, 0] rfl)
  exact L4 NF _ _ _ _ _ hf hW (lv_sub hl [2, 1, 0] rfl)
def f6_freeSeat (g : Sg) : Option (Int32 × Sg) :=
  (if (g 0 7) ≤ (g 0 8) then (if (g 0 0) = (2 : Int32) then (b2 (f6_seatByHand g) (fun r8 g7 => (some (r8, g7)))) else ((f6_seatByRank g).bind (fun r4 => (some (r4, g))))) else (st (va_up g 0 (upd (g 0) 8 ((g 0 8) + (1 : Int32)))) (fun g10 => (some (((g10 0 8) - (1 : Int32)), g10)))))
set_option maxHeartbeats 4000000 in
set_option maxRecDepth 100000 in
theorem f6_freeSeat_ok (l : Launch) (D : va_G) (cy : Nat → ClassId) (ad : Nat → Nat → Nat → Nat) (ns : List (Nat × Nat × Nat)) (M : Me) (t i : Nat) (hI : IsSeats cy ad ns t i) (g : Sg) (r : Int32) (m2 : Sg)  (hf : f6_freeSeat g = some (r, m2)) : Ci l yX6_freeSeat (.code yX6_freeSeat cX6_freeSeat 1 (some .int) :: tk_tb) { frames := 2, cells := 0, slots := 0, locals := 44 } D cy ad ns [.ref (ad t i 0)] (uI M t i g) r (uI M t i m2) := by
  refine Ci.of (by decide) (Nat.le_of_ble_eq_true rfl) ?_
  intro p e s m below meth c ls hE hW hl
  obtain ⟨hx, hb, hr, hml, hown, hts, hlk, hK⟩ := hE
  have hA : ∀ q : Nat, s.heap.size ≤ q → Aw ad ns s.heap.size q := fun q h => Or.inr h
  have hl : lv_has ls 1 [(0, .ref (ad t i 0))] := hl
  unfold f6_freeSeat at hf
  refine lv_aload_n hx hb dX6_freeSeat_0 rfl (lv_at hl 0 rfl) ?_
  refine x_get hx hb hts hown hK hW (hI.2 0 (by decide)) uI_o (hI.1 0 _) rfl inX6 8 (by decide) t_51 rfl dX6_freeSeat_1 ?_
  refine lv_aload_n hx hb dX6_freeSeat_4 rfl (lv_at hl 0 rfl) ?_
  refine x_get hx hb hts hown hK hW (hI.2 0 (by decide)) uI_o (hI.1 0 _) rfl inX6 7 (by decide) t_50 rfl dX6_freeSeat_5 ?_
  refine lv_icmp_ge (tgt := 28) hx hb dX6_freeSeat_8 (by decide) (fun c1 => ?_) (fun c1 => ?_)
  · replace hf := (if_pos c1).symm.trans hf
    refine lv_aload_n hx hb dX6_freeSeat_28 rfl (lv_at hl 0 rfl) ?_
    refine x_get hx hb hts hown hK hW (hI.2 0 (by decide)) uI_o (hI.1 0 _) rfl inX6 0 (by decide) t_43 rfl dX6_freeSeat_29 ?_
    refine lv_iconst (v := 2) hx hb dX6_freeSeat_32 (by decide) ?_
    refine lv_icmp_ne (tgt := 43) hx hb dX6_freeSeat_33 (by decide) (fun c2 => ?_) (fun c2 => ?_)
    · replace hf := (if_neg c2).symm.trans hf
      refine lv_aload_n hx hb dX6_freeSeat_43 rfl (lv_at hl 0 rfl) ?_
      obtain ⟨r4, hc3, hf⟩ := bd_some hf
      have hC5 := f6_seatByRank_ok l D cy ad ns M t i hI g r4 hc3
      refine x_vi (n := 0) (As := []) (rest := []) hx hb hml hts hown hK hW hA hC5 (hI.2 0 (by decide)) uI_o (hI.1 0 _) rfl rfl t_637 t_639 p_21 t_4 t_640 rfl (by decide +kernel) rfl rfl ⟨Nat.le_of_ble_eq_true rfl, Nat.le_of_ble_eq_true rfl⟩ hl.1 rfl (lv_room (Nat.le_of_ble_eq_true rfl)) dX6_freeSeat_44 ⟨(Nat.le_of_ble_eq_true rfl), (Nat.le_of_ble_eq_true rfl)⟩ (fun H locs hW => ?_)
      exact x_iret hx hb hr hlk hK hW (congrArg Prod.fst (Option.some.inj hf)) (congrArg (fun q => (uI M t i (Prod.snd q))) (Option.some.inj hf)) dX6_freeSeat_47
    · replace hf := (if_pos c2).symm.trans hf
      refine lv_aload_n hx hb dX6_freeSeat_36 rfl (lv_at hl 0 rfl) ?_
      obtain ⟨r8, g7, hc6, hf⟩ := b2_some hf
      have hC9 := f6_seatByHand_ok l D cy ad ns M t i hI g r8 g7 hc6
      refine x_vi (n := 0) (As := []) (rest := []) hx hb hml hts hown hK hW hA hC9 (hI.2 0 (by decide)) uI_o (hI.1 0 _) rfl rfl t_629 t_631 p_19 t_4 t_632 rfl (by decide +kernel) rfl rfl ⟨Nat.le_of_ble_eq_true rfl, Nat.le_of_ble_eq_true rfl⟩ hl.1 rfl (lv_room (Nat.le_of_ble_eq_true rfl)) dX6_freeSeat_37 ⟨(Nat.le_of_ble_eq_true rfl), (Nat.le_of_ble_eq_true rfl)⟩ (fun H locs hW => ?_)
      refine lv_goto (tgt := 47) hx hb dX6_freeSeat_40 (by decide) ?_
      exact x_iret hx hb hr hlk hK hW (congrArg Prod.fst (Option.some.inj hf)) (congrArg (fun q => (uI M t i (Prod.snd q))) (Option.some.inj hf)) dX6_freeSeat_47
  · replace hf := (if_neg c1).symm.trans hf
    refine lv_aload_n hx hb dX6_freeSeat_11 rfl (lv_at hl 0 rfl) ?_
    refine lv_dup hx hb dX6_freeSeat_12 rfl ?_
    refine x_get hx hb hts hown hK hW (hI.2 0 (by decide)) uI_o (hI.1 0 _) rfl inX6 8 (by decide) t_51 rfl dX6_freeSeat_13 ?_
    refine lv_iconst (v := 1) hx hb dX6_freeSeat_16 (by decide) ?_
    refine lv_iadd hx hb dX6_freeSeat_17 ?_
    replace hf := st_some hf
    refine x_put hx hb hts hown hK hW (hI.2 0 (by decide)) uI_o (hI.1 0 _) rfl inX6 tyX6 tyX6_ok nmX6 8 (by decide) t_51 rfl rfl (Nat.le_of_ble_eq_true rfl) (hI.1 0 _) uC_leaf dX6_freeSeat_18 (fun H locs hW => ?_)
    generalize (va_up g 0 (upd (g 0) 8 ((g 0 8) + (1 : Int32)))) = g10 at hf hW
    refine lv_aload_n hx hb dX6_freeSeat_21 rfl (lv_at hl 0 rfl) ?_
    refine x_get hx hb hts hown hK hW (hI.2 0 (by decide)) uI_o (hI.1 0 _) rfl inX6 8 (by decide) t_51 rfl dX6_freeSeat_22 ?_
    refine lv_iconst (v := 1) hx hb dX6_freeSeat_25 (by decide) ?_
    refine lv_isub hx hb dX6_freeSeat_26 ?_
    exact x_iret hx hb hr hlk hK hW (congrArg Prod.fst (Option.some.inj hf)) (congrArg (fun q => (uI M t i (Prod.snd q))) (Option.some.inj hf)) dX6_freeSeat_27
def f6_asks_j55 (w2 : Int32) (w3 : Int32) (w4 : Int32) (w5 : Int32) (g : Sg) : Option (Int32 × Sg) :=
  (if w5 = 0 then (wr 30 w4 (va_up g 6 (upd (g 6) (w4).toNatClampNeg (0 : Int32))) (fun g17 => (wr 30 w4 (va_up g17 3 (upd (g17 3) (w4).toNatClampNeg w2)) (fun g19 => (rd 30 (g19 4) w4 (fun v21 => (wr 30 w4 (va_up g19 4 (upd (g19 4) (w4).toNatClampNeg (v21 + (1 : Int32)))) (fun g23 => (wr 30 w4 (va_up g23 5 (upd (g23 5) (w4).toNatClampNeg w3)) (fun g25 => (bz w5 (some (w5, g25))))))))))))) else (wr 30 w4 (va_up g 6 (upd (g 6) (w4).toNatClampNeg (1 : Int32))) (fun g28 => (wr 30 w4 (va_up g28 3 (upd (g28 3) (w4).toNatClampNeg w2)) (fun g30 => (rd 30 (g30 4) w4 (fun v32 => (wr 30 w4 (va_up g30 4 (upd (g30 4) (w4).toNatClampNeg (v32 + (1 : Int32)))) (fun g34 => (wr 30 w4 (va_up g34 5 (upd (g34 5) (w4).toNatClampNeg w3)) (fun g36 => (bz w5 (some (w5, g36))))))))))))))
def f6_asks (a1 : Int32) (a2 : Int32) (a3 : Int32) (g : Sg) : Option (Int32 × Sg) :=
  ((f6_seatOf g a1).bind (fun r2 => (if r2 = (-1 : Int32) then (b2 (f6_freeSeat g) (fun r7 g6 => (wr 30 r7 (va_up g6 1 (upd (g6 1) (r7).toNatClampNeg a1)) (fun g10 => (wr 30 r7 (va_up g10 2 (upd (g10 2) (r7).toNatClampNeg a2)) (fun g12 => (wr 30 r7 (va_up g12 4 (upd (g12 4) (r7).toNatClampNeg (0 : Int32))) (fun g14 => (f6_asks_j55 a2 a3 r7 (0 : Int32) g14))))))))) else (f6_asks_j55 a2 a3 r2 (1 : Int32) g))))
set_option maxHeartbeats 4000000 in
set_option maxRecDepth 100000 in
theorem f6_asks_ok (l : Launch) (D : va_G) (cy : Nat → ClassId) (ad : Nat → Nat → Nat → Nat) (ns : List (Nat × Nat × Nat)) (M : Me) (t i : Nat) (hI : IsSeats cy ad ns t i) (g : Sg) (a1 : Int32) (a2 : Int32) (a3 : Int32) (r : Int32) (m2 : Sg)  (hf : f6_asks a1 a2 a3 g = some (r, m2)) : Ci l yX6_asks (.code yX6_asks cX6_asks 6 (some .boolean) :: tk_tb) { frames := 3, cells := 0, slots := 0, locals := 64 } D cy ad ns [.ref (ad t i 0), .int a1, .int a2, .int a3] (uI M t i g) r (uI M t i m2) := by
  refine Ci.of (by decide) (Nat.le_of_ble_eq_true rfl) ?_
  intro p e s m below meth c ls hE hW hl
  obtain ⟨hx, hb, hr, hml, hown, hts, hlk, hK⟩ := hE
  have hA : ∀ q : Nat, s.heap.size ≤ q → Aw ad ns s.heap.size q := fun q h => Or.inr h
  have hl : lv_has ls 6 [(0, .ref (ad t i 0)), (1, .int a1), (2, .int a2), (3, .int a3)] := hl
  unfold f6_asks at hf
  have J55 : ∀ (w2 : Int32) (w3 : Int32) (w4 : Int32) (w5 : Int32) (g : Sg) (H : Heap) (locs : List Loc) (ls : Array Slot), f6_asks_j55 w2 w3 w4 w5 g = some (r, m2) → Wl D cy ad ns (Aw ad ns s.heap.size) s.heap (uI M t i g) H locs → lv_has ls 6 [(0, .ref (ad t i 0)), (2, .int w2), (3, .int w3), (4, .int w4), (5, .int w5)] → W p l e { frames := 3, cells := 0, slots := 0, locals := 64 } s m ([.ref (ad t i 0), .int a1, .int a2, .int a3] : List Value).toArray below meth c H locs 0 0 (QI below D cy ad ns [.ref (ad t i 0), .int a1, .int a2, .int a3] s r (uI M t i m2)) (F0 m 55 ls []) := by
    intro w2 w3 w4 w5 g H locs ls hf hW hl
    unfold f6_asks_j55 at hf
    refine lv_aload_n hx hb dX6_asks_55 rfl (lv_at hl 0 rfl) ?_
    refine x_get hx hb hts hown hK hW (hI.2 0 (by decide)) uI_o (hI.1 0 _) rfl inX6 6 (by decide) t_49 rfl dX6_asks_56 ?_
    refine lv_iload hx hb dX6_asks_59 (lv_at hl 3 rfl) ?_
    refine lv_iload hx hb dX6_asks_61 (lv_at hl 4 rfl) ?_
    refine lv_if_eq (tgt := 70) hx hb dX6_asks_63 (by decide) (fun c15 => ?_) (fun c15 => ?_)
    · replace hf := (if_pos c15).symm.trans hf
      refine lv_iconst (v := 0) hx hb dX6_asks_70 (by decide) ?_
      obtain ⟨hi16, hf⟩ := wr_some hf
      refine x_iast hx hb hK hW (hI.2 6 (by decide)) uI_o (fun _ => (hI.1 6 _)) hi16 uC_leaf dX6_asks_71 (fun H locs hW => ?_)
      generalize (va_up g 6 (upd (g 6) (w4).toNatClampNeg (0 : Int32))) = g17 at hf hW
      refine lv_aload_n hx hb dX6_asks_72 rfl (lv_at hl 0 rfl) ?_
      refine x_get hx hb hts hown hK hW (hI.2 0 (by decide)) uI_o (hI.1 0 _) rfl inX6 3 (by decide) t_46 rfl dX6_asks_73 ?_
      refine lv_iload hx hb dX6_asks_76 (lv_at hl 3 rfl) ?_
      refine lv_iload_n hx hb dX6_asks_78 rfl (lv_at hl 1 rfl) ?_
      obtain ⟨hi18, hf⟩ := wr_some hf
      refine x_iast hx hb hK hW (hI.2 3 (by decide)) uI_o (fun _ => (hI.1 3 _)) hi18 uC_leaf dX6_asks_79 (fun H locs hW => ?_)
      generalize (va_up g17 3 (upd (g17 3) (w4).toNatClampNeg w2)) = g19 at hf hW
      refine lv_aload_n hx hb dX6_asks_80 rfl (lv_at hl 0 rfl) ?_
      refine x_get hx hb hts hown hK hW (hI.2 0 (by decide)) uI_o (hI.1 0 _) rfl inX6 4 (by decide) t_47 rfl dX6_asks_81 ?_
      refine lv_iload hx hb dX6_asks_84 (lv_at hl 3 rfl) ?_
      refine lv_dup2_11 hx hb dX6_asks_86 rfl rfl ?_
      obtain ⟨hi20, hf⟩ := rd_some hf
      refine x_iald hx hb hK hW (hI.2 4 (by decide)) uI_o (hI.1 4 _) hi20 dX6_asks_87 ?_
      generalize g19 4 (w4).toNatClampNeg = v21 at hf ⊢
      refine lv_iconst (v := 1) hx hb dX6_asks_88 (by decide) ?_
      refine lv_iadd hx hb dX6_asks_89 ?_
      obtain ⟨hi22, hf⟩ := wr_some hf
      refine x_iast hx hb hK hW (hI.2 4 (by decide)) uI_o (fun _ => (hI.1 4 _)) hi22 uC_leaf dX6_asks_90 (fun H locs hW => ?_)
      generalize (va_up g19 4 (upd (g19 4) (w4).toNatClampNeg (v21 + (1 : Int32)))) = g23 at hf hW
      refine lv_aload_n hx hb dX6_asks_91 rfl (lv_at hl 0 rfl) ?_
      refine x_get hx hb hts hown hK hW (hI.2 0 (by decide)) uI_o (hI.1 0 _) rfl inX6 5 (by decide) t_48 rfl dX6_asks_92 ?_
      refine lv_iload hx hb dX6_asks_95 (lv_at hl 3 rfl) ?_
      refine lv_iload_n hx hb dX6_asks_97 rfl (lv_at hl 2 rfl) ?_
      obtain ⟨hi24, hf⟩ := wr_some hf
      refine x_iast hx hb hK hW (hI.2 5 (by decide)) uI_o (fun _ => (hI.1 5 _)) hi24 uC_leaf dX6_asks_98 (fun H locs hW => ?_)
      generalize (va_up g23 5 (upd (g23 5) (w4).toNatClampNeg w3)) = g25 at hf hW
      refine lv_iload hx hb dX6_asks_99 (lv_at hl 4 rfl) ?_
      obtain ⟨hz26, hf⟩ := bz_some hf
      exact x_zret hx hb hr hlk hz26 hK hW (congrArg Prod.fst (Option.some.inj hf)) (congrArg (fun q => (uI M t i (Prod.snd q))) (Option.some.inj hf)) dX6_asks_101
    · replace hf := (if_neg c15).symm.trans hf
      refine lv_iconst (v := 1) hx hb dX6_asks_66 (by decide) ?_
      refine lv_goto (tgt := 71) hx hb dX6_asks_67 (by decide) ?_
      obtain ⟨hi27, hf⟩ := wr_some hf
      refine x_iast hx hb hK hW (hI.2 6 (by decide)) uI_o (fun _ => (hI.1 6 _)) hi27 uC_leaf dX6_asks_71 (fun H locs hW => ?_)
      generalize (va_up g 6 (upd (g 6) (w4).toNatClampNeg (1 : Int32))) = g28 at hf hW
      refine lv_aload_n hx hb dX6_asks_72 rfl (lv_at hl 0 rfl) ?_
      refine x_get hx hb hts hown hK hW (hI.2 0 (by decide)) uI_o (hI.1 0 _) rfl inX6 3 (by decide) t_46 rfl dX6_asks_73 ?_
      refine lv_iload hx hb dX6_asks_76 (lv_at hl 3 rfl) ?_
      refine lv_iload_n hx hb dX6_asks_78 rfl (lv_at hl 1 rfl) ?_
      obtain ⟨hi29, hf⟩ := wr_some hf
      refine x_iast hx hb hK hW (hI.2 3 (by decide)) uI_o (fun _ => (hI.1 3 _)) hi29 uC_leaf dX6_asks_79 (fun H locs hW => ?_)
      generalize (va_up g28 3 (upd (g28 3) (w4).toNatClampNeg w2)) = g30 at hf hW
      refine lv_aload_n hx hb dX6_asks_80 rfl (lv_at hl 0 rfl) ?_
      refine x_get hx hb hts hown hK hW (hI.2 0 (by decide)) uI_o (hI.1 0 _) rfl inX6 4 (by decide) t_47 rfl dX6_asks_81 ?_
      refine lv_iload hx hb dX6_asks_84 (lv_at hl 3 rfl) ?_
      refine lv_dup2_11 hx hb dX6_asks_86 rfl rfl ?_
      obtain ⟨hi31, hf⟩ := rd_some hf
      refine x_iald hx hb hK hW (hI.2 4 (by decide)) uI_o (hI.1 4 _) hi31 dX6_asks_87 ?_
      generalize g30 4 (w4).toNatClampNeg = v32 at hf ⊢
      refine lv_iconst (v := 1) hx hb dX6_asks_88 (by decide) ?_
      refine lv_iadd hx hb dX6_asks_89 ?_
      obtain ⟨hi33, hf⟩ := wr_some hf
      refine x_iast hx hb hK hW (hI.2 4 (by decide)) uI_o (fun _ => (hI.1 4 _)) hi33 uC_leaf dX6_asks_90 (fun H locs hW => ?_)
      generalize (va_up g30 4 (upd (g30 4) (w4).toNatClampNeg (v32 + (1 : Int32)))) = g34 at hf hW
      refine lv_aload_n hx hb dX6_asks_91 rfl (lv_at hl 0 rfl) ?_
      refine x_get hx hb hts hown hK hW (hI.2 0 (by decide)) uI_o (hI.1 0 _) rfl inX6 5 (by decide) t_48 rfl dX6_asks_92 ?_
      refine lv_iload hx hb dX6_asks_95 (lv_at hl 3 rfl) ?_
      refine lv_iload_n hx hb dX6_asks_97 rfl (lv_at hl 2 rfl) ?_
      obtain ⟨hi35, hf⟩ := wr_some hf
      refine x_iast hx hb hK hW (hI.2 5 (by decide)) uI_o (fun _ => (hI.1 5 _)) hi35 uC_leaf dX6_asks_98 (fun H locs hW => ?_)
      generalize (va_up g34 5 (upd (g34 5) (w4).toNatClampNeg w3)) = g36 at hf hW
      refine lv_iload hx hb dX6_asks_99 (lv_at hl 4 rfl) ?_
      obtain ⟨hz37, hf⟩ := bz_some hf
      exact x_zret hx hb hr hlk hz37 hK hW (congrArg Prod.fst (Option.some.inj hf)) (congrArg (fun q => (uI M t i (Prod.snd q))) (Option.some.inj hf)) dX6_asks_101
  refine lv_aload_n hx hb dX6_asks_0 rfl (lv_at hl 0 rfl) ?_
  refine lv_iload_n hx hb dX6_asks_1 rfl (lv_at hl 1 rfl) ?_
  obtain ⟨r2, hc1, hf⟩ := bd_some hf
  have hC3 := f6_seatOf_ok l D cy ad ns M t i hI g a1 r2 hc1
  refine x_vi (n := 1) (As := [.int a1]) (rest := []) hx hb hml hts hown hK hW hA hC3 (hI.2 0 (by decide)) uI_o (hI.1 0 _) rfl rfl t_621 t_623 p_17 t_4 t_624 rfl (by decide +kernel) rfl rfl ⟨Nat.le_of_ble_eq_true rfl, Nat.le_of_ble_eq_true rfl⟩ hl.1 rfl (lv_room (Nat.le_of_ble_eq_true rfl)) dX6_asks_2 ⟨(Nat.le_of_ble_eq_true rfl), (Nat.le_of_ble_eq_true rfl)⟩ (fun H locs hW => ?_)
  refine lv_istore (lv' := [(4, .int r2), (0, .ref (ad t i 0)), (1, .int a1), (2, .int a2), (3, .int a3)]) hx hb dX6_asks_5 hl (by decide) rfl (fun ls hl => ?_)
  refine lv_iload hx hb dX6_asks_7 (lv_at hl 0 rfl) ?_
  refine lv_iconst (v := -1) hx hb dX6_asks_9 (by decide) ?_
  refine lv_icmp_eq (tgt := 17) hx hb dX6_asks_10 (by decide) (fun c4 => ?_) (fun c4 => ?_)
  · replace hf := (if_pos c4).symm.trans hf
    refine lv_iconst (v := 0) hx hb dX6_asks_17 (by decide) ?_
    refine lv_istore (lv' := [(5, .int (0 : Int32)), (4, .int r2), (0, .ref (ad t i 0)), (1, .int a1), (2, .int a2), (3, .int a3)]) hx hb dX6_asks_18 hl (by decide) rfl (fun ls hl => ?_)
    refine lv_iload hx hb dX6_asks_20 (lv_at hl 0 rfl) ?_
    refine lv_if_ne (tgt := 55) hx hb dX6_asks_22 (by decide) (fun c9 => absurd (by decide) c9) (fun _ => ?_)
    refine lv_aload_n hx hb dX6_asks_25 rfl (lv_at hl 2 rfl) ?_
    obtain ⟨r7, g6, hc5, hf⟩ := b2_some hf
    have hC8 := f6_freeSeat_ok l D cy ad ns M t i hI g r7 g6 hc5
    refine x_vi (n := 0) (As := []) (rest := []) hx hb hml hts hown hK hW hA hC8 (hI.2 0 (by decide)) uI_o (hI.1 0 _) rfl rfl t_625 t_627 p_18 t_4 t_628 rfl (by decide +kernel) rfl rfl ⟨Nat.le_of_ble_eq_true rfl, Nat.le_of_ble_eq_true rfl⟩ hl.1 rfl (lv_room (Nat.le_of_ble_eq_true rfl)) dX6_asks_26 ⟨(Nat.le_of_ble_eq_true rfl), (Nat.le_of_ble_eq_true rfl)⟩ (fun H locs hW => ?_)
    refine lv_istore (lv' := [(4, .int r7), (5, .int (0 : Int32)), (0, .ref (ad t i 0)), (1, .int a1), (2, .int a2), (3, .int a3)]) hx hb dX6_asks_29 hl (by decide) rfl (fun ls hl => ?_)
    refine lv_aload_n hx hb dX6_asks_31 rfl (lv_at hl 2 rfl) ?_
    refine x_get hx hb hts hown hK hW (hI.2 0 (by decide)) uI_o (hI.1 0 _) rfl inX6 1 (by decide) t_44 rfl dX6_asks_32 ?_
    refine lv_iload hx hb dX6_asks_35 (lv_at hl 0 rfl) ?_
    refine lv_iload_n hx hb dX6_asks_37 rfl (lv_at hl 3 rfl) ?_
    obtain ⟨hi9, hf⟩ := wr_some hf
    refine x_iast hx hb hK hW (hI.2 1 (by decide)) uI_o (fun _ => (hI.1 1 _)) hi9 uC_leaf dX6_asks_38 (fun H locs hW => ?_)
    generalize (va_up g6 1 (upd (g6 1) (r7).toNatClampNeg a1)) = g10 at hf hW
    refine lv_aload_n hx hb dX6_asks_39 rfl (lv_at hl 2 rfl) ?_
    refine x_get hx hb hts hown hK hW (hI.2 0 (by decide)) uI_o (hI.1 0 _) rfl inX6 2 (by decide) t_45 rfl dX6_asks_40 ?_
    refine lv_iload hx hb dX6_asks_43 (lv_at hl 0 rfl) ?_
    refine lv_iload_n hx hb dX6_asks_45 rfl (lv_at hl 4 rfl) ?_
    obtain ⟨hi11, hf⟩ := wr_some hf
    refine x_iast hx hb hK hW (hI.2 2 (by decide)) uI_o (fun _ => (hI.1 2 _)) hi11 uC_leaf dX6_asks_46 (fun H locs hW => ?_)
    generalize (va_up g10 2 (upd (g10 2) (r7).toNatClampNeg a2)) = g12 at hf hW
    refine lv_aload_n hx hb dX6_asks_47 rfl (lv_at hl 2 rfl) ?_
    refine x_get hx hb hts hown hK hW (hI.2 0 (by decide)) uI_o (hI.1 0 _) rfl inX6 4 (by decide) t_47 rfl dX6_asks_48 ?_
    refine lv_iload hx hb dX6_asks_51 (lv_at hl 0 rfl) ?_
    refine lv_iconst (v := 0) hx hb dX6_asks_53 (by decide) ?_
    obtain ⟨hi13, hf⟩ := wr_some hf
    refine x_iast hx hb hK hW (hI.2 4 (by decide)) uI_o (fun _ => (hI.1 4 _)) hi13 uC_leaf dX6_asks_54 (fun H locs hW => ?_)
    generalize (va_up g12 4 (upd (g12 4) (r7).toNatClampNeg (0 : Int32))) = g14 at hf hW
    exact J55 _ _ _ _ _ _ _ _ hf hW (lv_sub hl [2, 4, 5, 0, 1] rfl)
  · replace hf := (if_neg c4).symm.trans hf
    refine lv_iconst (v := 1) hx hb dX6_asks_13 (by decide) ?_
    refine lv_goto (tgt := 18) hx hb dX6_asks_14 (by decide) ?_
    refine lv_istore (lv' := [(5, .int (1 : Int32)), (4, .int r2), (0, .ref (ad t i 0)), (1, .int a1), (2, .int a2), (3, .int a3)]) hx hb dX6_asks_18 hl (by decide) rfl (fun ls hl => ?_)
    refine lv_iload hx hb dX6_asks_20 (lv_at hl 0 rfl) ?_
    refine lv_if_ne (tgt := 55) hx hb dX6_asks_22 (by decide) (fun _ => ?_) (fun c9 => absurd c9 (by decide))
    exact J55 _ _ _ _ _ _ _ _ hf hW (lv_sub hl [2, 4, 5, 1, 0] rfl)
def f6_holds (g : Sg) (a1 : Int32) : Option Int32 :=
  ((f6_seatOf g a1).bind (fun r2 => (if r2 = (-1 : Int32) then (some (0 : Int32)) else (some (1 : Int32)))))
set_option maxHeartbeats 4000000 in
set_option maxRecDepth 100000 in
theorem f6_holds_ok (l : Launch) (D : va_G) (cy : Nat → ClassId) (ad : Nat → Nat → Nat → Nat) (ns : List (Nat × Nat × Nat)) (M : Me) (t i : Nat) (hI : IsSeats cy ad ns t i) (g : Sg) (a1 : Int32) (r : Int32)  (hf : f6_holds g a1 = some r) : Ci l yX6_holds (.code yX6_holds cX6_holds 2 (some .boolean) :: tk_tb) { frames := 1, cells := 0, slots := 0, locals := 22 } D cy ad ns [.ref (ad t i 0), .int a1] (uI M t i g) r (uI M t i g) := by
  refine Ci.of (by decide) (Nat.le_of_ble_eq_true rfl) ?_
  intro p e s m below meth c ls hE hW hl
  obtain ⟨hx, hb, hr, hml, hown, hts, hlk, hK⟩ := hE
  have hA : ∀ q : Nat, s.heap.size ≤ q → Aw ad ns s.heap.size q := fun q h => Or.inr h
  have hl : lv_has ls 2 [(0, .ref (ad t i 0)), (1, .int a1)] := hl
  unfold f6_holds at hf
  refine lv_aload_n hx hb dX6_holds_0 rfl (lv_at hl 0 rfl) ?_
  refine lv_iload_n hx hb dX6_holds_1 rfl (lv_at hl 1 rfl) ?_
  obtain ⟨r2, hc1, hf⟩ := bd_some hf
  have hC3 := f6_seatOf_ok l D cy ad ns M t i hI g a1 r2 hc1
  refine x_vi (n := 1) (As := [.int a1]) (rest := []) hx hb hml hts hown hK hW hA hC3 (hI.2 0 (by decide)) uI_o (hI.1 0 _) rfl rfl t_621 t_623 p_17 t_4 t_624 rfl (by decide +kernel) rfl rfl ⟨Nat.le_of_ble_eq_true rfl, Nat.le_of_ble_eq_true rfl⟩ hl.1 rfl (lv_room (Nat.le_of_ble_eq_true rfl)) dX6_holds_2 ⟨(Nat.le_of_ble_eq_true rfl), (Nat.le_of_ble_eq_true rfl)⟩ (fun H locs hW => ?_)
  refine lv_iconst (v := -1) hx hb dX6_holds_5 (by decide) ?_
  refine lv_icmp_eq (tgt := 13) hx hb dX6_holds_6 (by decide) (fun c4 => ?_) (fun c4 => ?_)
  · replace hf := (if_pos c4).symm.trans hf
    refine lv_iconst (v := 0) hx hb dX6_holds_13 (by decide) ?_
    exact x_zret hx hb hr hlk (by first | decide | rfl) hK hW (Option.some.inj hf) rfl dX6_holds_14
  · replace hf := (if_neg c4).symm.trans hf
    refine lv_iconst (v := 1) hx hb dX6_holds_9 (by decide) ?_
    refine lv_goto (tgt := 14) hx hb dX6_holds_10 (by decide) ?_
    exact x_zret hx hb hr hlk (by first | decide | rfl) hK hW (Option.some.inj hf) rfl dX6_holds_14
