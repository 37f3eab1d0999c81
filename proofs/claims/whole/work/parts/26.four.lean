def f2_begin (a1 : Int32) (S : Ob) : Option Ob :=
  ((f5_clear 4 (S 7)).bind (fun g2 => (st (va_up S 7 g2) (fun S3 => (st (va_up S3 6 (va_up (S3 6) 0 (upd (S3 6 0) 1 a1))) (fun S5 => (st (va_up S5 6 (va_up (S5 6) 0 (upd (S5 6 0) 2 (0 : Int32)))) (fun S6 => (some S6)))))))))
set_option maxHeartbeats 4000000 in
set_option maxRecDepth 100000 in
theorem f2_begin_ok (l : Launch) (D : va_G) (cy : Nat → ClassId) (ad : Nat → Nat → Nat → Nat) (ns : List (Nat × Nat × Nat)) (M : Me) (t : Nat) (hI : IsPl cy ad ns t) (S : Ob) (a1 : Int32) (m2 : Ob)  (hf : f2_begin a1 S = some m2) : Cv l yX2_begin (.code yX2_begin cX2_begin 2 none :: tk_tb) { frames := 2, cells := 0, slots := 0, locals := 43 } D cy ad ns [.ref (ad t 6 0), .int a1] (va_up M t S) (va_up M t m2) := by
  refine Cv.of (by decide) (Nat.le_of_ble_eq_true rfl) ?_
  intro p e s m below meth c ls hE hW hl
  obtain ⟨hx, hb, hr, hml, hown, hts, hlk, hK⟩ := hE
  have hA : ∀ q : Nat, s.heap.size ≤ q → Aw ad ns s.heap.size q := fun q h => Or.inr h
  have hl : lv_has ls 2 [(0, .ref (ad t 6 0)), (1, .int a1)] := hl
  unfold f2_begin at hf
  refine lv_aload_n hx hb dX2_begin_0 rfl (lv_at hl 0 rfl) ?_
  refine x_get hx hb hts hown hK hW (hI.2 6 0 (by decide)) up_io (hI.1 6 0 _) rfl inX2 0 (by decide) t_122 rfl dX2_begin_1 ?_
  obtain ⟨g2, hc1, hf⟩ := bd_some hf
  replace hf := st_some hf
  have hC4 := f5_clear_ok l D cy ad ns (va_up M t S) t 7 4 (by decide) (hI.pl_7) (S 7) g2 hc1
  rw [uI_gid, uI_grp] at hC4
  refine x_vv (n := 0) (As := []) (rest := []) hx hb hml hts hown hK hW hA hC4 (hI.2 7 0 (by decide)) up_io (hI.1 7 0 _) rfl rfl t_579 t_580 t_581 t_6 t_582 rfl (by decide +kernel) rfl rfl ⟨Nat.le_of_ble_eq_true rfl, Nat.le_of_ble_eq_true rfl⟩ hl.1 rfl (lv_room (Nat.le_of_ble_eq_true rfl)) dX2_begin_4 ⟨(Nat.le_of_ble_eq_true rfl), (Nat.le_of_ble_eq_true rfl)⟩ (fun H locs hW => ?_)
  generalize (va_up S 7 g2) = S3 at hf hW
  refine lv_aload_n hx hb dX2_begin_7 rfl (lv_at hl 0 rfl) ?_
  refine lv_iload_n hx hb dX2_begin_8 rfl (lv_at hl 1 rfl) ?_
  replace hf := st_some hf
  refine x_put hx hb hts hown hK hW (hI.2 6 0 (by decide)) up_io (hI.1 6 0 _) rfl inX2 tyX2 tyX2_ok nmX2 1 (by decide) t_123 rfl rfl (Nat.le_of_ble_eq_true rfl) (hI.1 6 0 _) uC_grp dX2_begin_9 (fun H locs hW => ?_)
  generalize (va_up S3 6 (va_up (S3 6) 0 (upd (S3 6 0) 1 a1))) = S5 at hf hW
  refine lv_aload_n hx hb dX2_begin_12 rfl (lv_at hl 0 rfl) ?_
  refine lv_iconst (v := 0) hx hb dX2_begin_13 (by decide) ?_
  replace hf := st_some hf
  refine x_put hx hb hts hown hK hW (hI.2 6 0 (by decide)) up_io (hI.1 6 0 _) rfl inX2 tyX2 tyX2_ok nmX2 2 (by decide) t_124 rfl rfl (Nat.le_of_ble_eq_true rfl) (hI.1 6 0 _) uC_grp dX2_begin_14 (fun H locs hW => ?_)
  generalize (va_up S5 6 (va_up (S5 6) 0 (upd (S5 6 0) 2 (0 : Int32)))) = S6 at hf hW
  exact x_vret hx hb hr hlk hK hW (congrArg (fun q => (va_up M t q)) (Option.some.inj hf)) dX2_begin_17
def f2_ratio (a0 : Int32) (a1 : Int32) : Option Int32 :=
  (if a1 ≤ 0 then (some (1 : Int32)) else (nz a1 (some (if (1 : Int32) < (a0 / a1) then (a0 / a1) else (1 : Int32)))))
set_option maxHeartbeats 4000000 in
set_option maxRecDepth 100000 in
theorem f2_ratio_ok (l : Launch) (D : va_G) (cy : Nat → ClassId) (ad : Nat → Nat → Nat → Nat) (ns : List (Nat × Nat × Nat)) (M : Me) (a0 : Int32) (a1 : Int32) (r : Int32)  (hf : f2_ratio a0 a1 = some r) : Ci l yX2_ratio (.code yX2_ratio cX2_ratio 2 (some .int) :: tk_tb) { frames := 1, cells := 0, slots := 0, locals := 21 } D cy ad ns [.int a0, .int a1] M r M := by
  refine Ci.of (by decide) (Nat.le_of_ble_eq_true rfl) ?_
  intro p e s m below meth c ls hE hW hl
  obtain ⟨hx, hb, hr, hml, hown, hts, hlk, hK⟩ := hE
  have hA : ∀ q : Nat, s.heap.size ≤ q → Aw ad ns s.heap.size q := fun q h => Or.inr h
  have hl : lv_has ls 2 [(0, .int a0), (1, .int a1)] := hl
  unfold f2_ratio at hf
  refine lv_iload_n hx hb dX2_ratio_0 rfl (lv_at hl 1 rfl) ?_
  refine lv_if_le (tgt := 14) hx hb dX2_ratio_1 (by decide) (fun c1 => ?_) (fun c1 => ?_)
  · replace hf := (if_pos c1).symm.trans hf
    refine lv_iconst (v := 1) hx hb dX2_ratio_14 (by decide) ?_
    exact x_iret hx hb hr hlk hK hW (Option.some.inj hf) rfl dX2_ratio_15
  · replace hf := (if_neg c1).symm.trans hf
    refine lv_iconst (v := 1) hx hb dX2_ratio_4 (by decide) ?_
    refine lv_iload_n hx hb dX2_ratio_5 rfl (lv_at hl 0 rfl) ?_
    refine lv_iload_n hx hb dX2_ratio_6 rfl (lv_at hl 1 rfl) ?_
    obtain ⟨hz2, hf⟩ := nz_some hf
    refine lv_idiv hx hb dX2_ratio_7 hz2 ?_
    refine va_mmax hx hb (hml.trans hl.1.symm) hown (hts _ t_615) (hts _ t_88) (hts _ t_7) (hts _ t_89) (Nat.le_of_ble_eq_true rfl) (Nat.le_of_ble_eq_true rfl) (Nat.zero_le _) (Nat.zero_le _) dX2_ratio_8 ?_
    refine lv_goto (tgt := 15) hx hb dX2_ratio_11 (by decide) ?_
    exact x_iret hx hb hr hlk hK hW (Option.some.inj hf) rfl dX2_ratio_15
def f2_makeRoom_j56 (S : Ob) : Option Ob :=
  ((f5_moveFirst 4 (0 : Int32) (2 : Int32) (S 7)).bind (fun g15 => (st (va_up S 7 g15) (fun S16 => (some S16)))))
def f2_makeRoom_j38 (S : Ob) : Option Ob :=
  (rd 4 (S 7 2) (1 : Int32) (fun v8 => (if v8 = 0 then (f2_makeRoom_j56 S) else ((f5_moveFirst 4 (1 : Int32) (3 : Int32) (S 7)).bind (fun g11 => (st (va_up S 7 g11) (fun S12 => (some S12))))))))
def f2_makeRoom_j34 (S : Ob) : Option Ob :=
  (f2_makeRoom_j56 S)
def f2_makeRoom (a1 : Int32) (S : Ob) : Option Ob :=
  (rd 4 (S 7 2) (0 : Int32) (fun v2 => (if v2 ≤ 0 then (f2_makeRoom_j38 S) else (if (S 6 0 2) < v2 then (f2_makeRoom_j34 S) else (if v2 = (S 6 0 2) then (if a1 = 0 then (f2_makeRoom_j38 S) else (f2_makeRoom_j34 S)) else (f2_makeRoom_j38 S))))))
set_option maxHeartbeats 4000000 in
set_option maxRecDepth 100000 in
theorem f2_makeRoom_ok (l : Launch) (D : va_G) (cy : Nat → ClassId) (ad : Nat → Nat → Nat → Nat) (ns : List (Nat × Nat × Nat)) (M : Me) (t : Nat) (hI : IsPl cy ad ns t) (S : Ob) (a1 : Int32) (m2 : Ob)  (hf : f2_makeRoom a1 S = some m2) : Cv l yX2_makeRoom (.code yX2_makeRoom cX2_makeRoom 4 none :: tk_tb) { frames := 2, cells := 0, slots := 0, locals := 49 } D cy ad ns [.ref (ad t 6 0), .int a1] (va_up M t S) (va_up M t m2) := by
  refine Cv.of (by decide) (Nat.le_of_ble_eq_true rfl) ?_
  intro p e s m below meth c ls hE hW hl
  obtain ⟨hx, hb, hr, hml, hown, hts, hlk, hK⟩ := hE
  have hA : ∀ q : Nat, s.heap.size ≤ q → Aw ad ns s.heap.size q := fun q h => Or.inr h
  have hl : lv_has ls 4 [(0, .ref (ad t 6 0)), (1, .int a1)] := hl
  unfold f2_makeRoom at hf
  have J56 : ∀ (S : Ob) (H : Heap) (locs : List Loc) (ls : Array Slot), f2_makeRoom_j56 S = some m2 → Wl D cy ad ns (Aw ad ns s.heap.size) s.heap (va_up M t S) H locs → lv_has ls 4 [(0, .ref (ad t 6 0))] → W p l e { frames := 2, cells := 0, slots := 0, locals := 49 } s m ([.ref (ad t 6 0), .int a1] : List Value).toArray below meth c H locs 0 0 (QV below D cy ad ns [.ref (ad t 6 0), .int a1] s (va_up M t m2)) (F0 m 56 ls []) := by
    intro S H locs ls hf hW hl
    unfold f2_makeRoom_j56 at hf
    refine lv_aload_n hx hb dX2_makeRoom_56 rfl (lv_at hl 0 rfl) ?_
    refine x_get hx hb hts hown hK hW (hI.2 6 0 (by decide)) up_io (hI.1 6 0 _) rfl inX2 0 (by decide) t_122 rfl dX2_makeRoom_57 ?_
    refine lv_iconst (v := 0) hx hb dX2_makeRoom_60 (by decide) ?_
    refine lv_iconst (v := 2) hx hb dX2_makeRoom_61 (by decide) ?_
    obtain ⟨g15, hc14, hf⟩ := bd_some hf
    replace hf := st_some hf
    have hC17 := f5_moveFirst_ok l D cy ad ns (va_up M t S) t 7 4 (by decide) (hI.pl_7) (S 7) (0 : Int32) (2 : Int32) g15 hc14
    rw [uI_gid, uI_grp] at hC17
    refine x_vv (n := 2) (As := [.int (0 : Int32), .int (2 : Int32)]) (rest := []) hx hb hml hts hown hK hW hA hC17 (hI.2 7 0 (by decide)) up_io (hI.1 7 0 _) rfl rfl t_607 t_608 t_609 t_6 t_610 rfl (by decide +kernel) rfl rfl ⟨Nat.le_of_ble_eq_true rfl, Nat.le_of_ble_eq_true rfl⟩ hl.1 rfl (lv_room (Nat.le_of_ble_eq_true rfl)) dX2_makeRoom_62 ⟨(Nat.le_of_ble_eq_true rfl), (Nat.le_of_ble_eq_true rfl)⟩ (fun H locs hW => ?_)
    generalize (va_up S 7 g15) = S16 at hf hW
    refine lv_goto (tgt := 77) hx hb dX2_makeRoom_65 (by decide) ?_
    exact x_vret hx hb hr hlk hK hW (congrArg (fun q => (va_up M t q)) (Option.some.inj hf)) dX2_makeRoom_77
  have J38 : ∀ (S : Ob) (H : Heap) (locs : List Loc) (ls : Array Slot), f2_makeRoom_j38 S = some m2 → Wl D cy ad ns (Aw ad ns s.heap.size) s.heap (va_up M t S) H locs → lv_has ls 4 [(0, .ref (ad t 6 0))] → W p l e { frames := 2, cells := 0, slots := 0, locals := 49 } s m ([.ref (ad t 6 0), .int a1] : List Value).toArray below meth c H locs 0 0 (QV below D cy ad ns [.ref (ad t 6 0), .int a1] s (va_up M t m2)) (F0 m 38 ls []) := by
    intro S H locs ls hf hW hl
    unfold f2_makeRoom_j38 at hf
    refine lv_iconst (v := 0) hx hb dX2_makeRoom_38 (by decide) ?_
    refine lv_istore_n (lv' := [(3, .int (0 : Int32)), (0, .ref (ad t 6 0))]) hx hb dX2_makeRoom_39 rfl hl (by decide) rfl (fun ls hl => ?_)
    refine lv_iload_n hx hb dX2_makeRoom_40 rfl (lv_at hl 0 rfl) ?_
    refine lv_if_ne (tgt := 56) hx hb dX2_makeRoom_41 (by decide) (fun c9 => absurd (by decide) c9) (fun _ => ?_)
    refine lv_aload_n hx hb dX2_makeRoom_44 rfl (lv_at hl 1 rfl) ?_
    refine x_get hx hb hts hown hK hW (hI.2 6 0 (by decide)) up_io (hI.1 6 0 _) rfl inX2 0 (by decide) t_122 rfl dX2_makeRoom_45 ?_
    refine x_get hx hb hts hown hK hW (hI.2 7 0 (by decide)) up_io (hI.1 7 0 _) rfl inX5 1 (by decide) t_98 rfl dX2_makeRoom_48 ?_
    refine lv_iconst (v := 1) hx hb dX2_makeRoom_51 (by decide) ?_
    obtain ⟨hi7, hf⟩ := rd_some hf
    refine x_iald hx hb hK hW (hI.2 7 2 (by decide)) up_io (hI.1 7 2 _) hi7 dX2_makeRoom_52 ?_
    generalize S 7 2 ((1 : Int32)).toNatClampNeg = v8 at hf ⊢
    refine lv_if_ne (tgt := 68) hx hb dX2_makeRoom_53 (by decide) (fun c9 => ?_) (fun c9 => ?_)
    · replace hf := (if_neg c9).symm.trans hf
      refine lv_aload_n hx hb dX2_makeRoom_68 rfl (lv_at hl 1 rfl) ?_
      refine x_get hx hb hts hown hK hW (hI.2 6 0 (by decide)) up_io (hI.1 6 0 _) rfl inX2 0 (by decide) t_122 rfl dX2_makeRoom_69 ?_
      refine lv_iconst (v := 1) hx hb dX2_makeRoom_72 (by decide) ?_
      refine lv_iconst (v := 3) hx hb dX2_makeRoom_73 (by decide) ?_
      obtain ⟨g11, hc10, hf⟩ := bd_some hf
      replace hf := st_some hf
      have hC13 := f5_moveFirst_ok l D cy ad ns (va_up M t S) t 7 4 (by decide) (hI.pl_7) (S 7) (1 : Int32) (3 : Int32) g11 hc10
      rw [uI_gid, uI_grp] at hC13
      refine x_vv (n := 2) (As := [.int (1 : Int32), .int (3 : Int32)]) (rest := []) hx hb hml hts hown hK hW hA hC13 (hI.2 7 0 (by decide)) up_io (hI.1 7 0 _) rfl rfl t_607 t_608 t_609 t_6 t_610 rfl (by decide +kernel) rfl rfl ⟨Nat.le_of_ble_eq_true rfl, Nat.le_of_ble_eq_true rfl⟩ hl.1 rfl (lv_room (Nat.le_of_ble_eq_true rfl)) dX2_makeRoom_74 ⟨(Nat.le_of_ble_eq_true rfl), (Nat.le_of_ble_eq_true rfl)⟩ (fun H locs hW => ?_)
      generalize (va_up S 7 g11) = S12 at hf hW
      exact x_vret hx hb hr hlk hK hW (congrArg (fun q => (va_up M t q)) (Option.some.inj hf)) dX2_makeRoom_77
    · replace hf := (if_pos c9).symm.trans hf
      exact J56 _ _ _ _ hf hW (lv_sub hl [1] rfl)
  have J34 : ∀ (S : Ob) (H : Heap) (locs : List Loc) (ls : Array Slot), f2_makeRoom_j34 S = some m2 → Wl D cy ad ns (Aw ad ns s.heap.size) s.heap (va_up M t S) H locs → lv_has ls 4 [(0, .ref (ad t 6 0))] → W p l e { frames := 2, cells := 0, slots := 0, locals := 49 } s m ([.ref (ad t 6 0), .int a1] : List Value).toArray below meth c H locs 0 0 (QV below D cy ad ns [.ref (ad t 6 0), .int a1] s (va_up M t m2)) (F0 m 34 ls []) := by
    intro S H locs ls hf hW hl
    unfold f2_makeRoom_j34 at hf
    refine lv_iconst (v := 1) hx hb dX2_makeRoom_34 (by decide) ?_
    refine lv_goto (tgt := 39) hx hb dX2_makeRoom_35 (by decide) ?_
    refine lv_istore_n (lv' := [(3, .int (1 : Int32)), (0, .ref (ad t 6 0))]) hx hb dX2_makeRoom_39 rfl hl (by decide) rfl (fun ls hl => ?_)
    refine lv_iload_n hx hb dX2_makeRoom_40 rfl (lv_at hl 0 rfl) ?_
    refine lv_if_ne (tgt := 56) hx hb dX2_makeRoom_41 (by decide) (fun _ => ?_) (fun c9 => absurd c9 (by decide))
    exact J56 _ _ _ _ hf hW (lv_sub hl [1] rfl)
  refine lv_aload_n hx hb dX2_makeRoom_0 rfl (lv_at hl 0 rfl) ?_
  refine x_get hx hb hts hown hK hW (hI.2 6 0 (by decide)) up_io (hI.1 6 0 _) rfl inX2 0 (by decide) t_122 rfl dX2_makeRoom_1 ?_
  refine x_get hx hb hts hown hK hW (hI.2 7 0 (by decide)) up_io (hI.1 7 0 _) rfl inX5 1 (by decide) t_98 rfl dX2_makeRoom_4 ?_
  refine lv_iconst (v := 0) hx hb dX2_makeRoom_7 (by decide) ?_
  obtain ⟨hi1, hf⟩ := rd_some hf
  refine x_iald hx hb hK hW (hI.2 7 2 (by decide)) up_io (hI.1 7 2 _) hi1 dX2_makeRoom_8 ?_
  generalize S 7 2 ((0 : Int32)).toNatClampNeg = v2 at hf ⊢
  refine lv_istore_n (lv' := [(2, .int v2), (0, .ref (ad t 6 0)), (1, .int a1)]) hx hb dX2_makeRoom_9 rfl hl (by decide) rfl (fun ls hl => ?_)
  refine lv_iload_n hx hb dX2_makeRoom_10 rfl (lv_at hl 0 rfl) ?_
  refine lv_if_le (tgt := 38) hx hb dX2_makeRoom_11 (by decide) (fun c3 => ?_) (fun c3 => ?_)
  · replace hf := (if_pos c3).symm.trans hf
    exact J38 _ _ _ _ hf hW (lv_sub hl [1] rfl)
  · replace hf := (if_neg c3).symm.trans hf
    refine lv_iload_n hx hb dX2_makeRoom_14 rfl (lv_at hl 0 rfl) ?_
    refine lv_aload_n hx hb dX2_makeRoom_15 rfl (lv_at hl 1 rfl) ?_
    refine x_get hx hb hts hown hK hW (hI.2 6 0 (by decide)) up_io (hI.1 6 0 _) rfl inX2 2 (by decide) t_124 rfl dX2_makeRoom_16 ?_
    refine lv_icmp_gt (tgt := 34) hx hb dX2_makeRoom_19 (by decide) (fun c4 => ?_) (fun c4 => ?_)
    · replace hf := (if_pos c4).symm.trans hf
      exact J34 _ _ _ _ hf hW (lv_sub hl [1] rfl)
    · replace hf := (if_neg c4).symm.trans hf
      refine lv_iload_n hx hb dX2_makeRoom_22 rfl (lv_at hl 0 rfl) ?_
      refine lv_aload_n hx hb dX2_makeRoom_23 rfl (lv_at hl 1 rfl) ?_
      refine x_get hx hb hts hown hK hW (hI.2 6 0 (by decide)) up_io (hI.1 6 0 _) rfl inX2 2 (by decide) t_124 rfl dX2_makeRoom_24 ?_
      refine lv_icmp_ne (tgt := 38) hx hb dX2_makeRoom_27 (by decide) (fun c5 => ?_) (fun c5 => ?_)
      · replace hf := (if_neg c5).symm.trans hf
        exact J38 _ _ _ _ hf hW (lv_sub hl [1] rfl)
      · replace hf := (if_pos c5).symm.trans hf
        refine lv_iload_n hx hb dX2_makeRoom_30 rfl (lv_at hl 2 rfl) ?_
        refine lv_if_eq (tgt := 38) hx hb dX2_makeRoom_31 (by decide) (fun c6 => ?_) (fun c6 => ?_)
        · replace hf := (if_pos c6).symm.trans hf
          exact J38 _ _ _ _ hf hW (lv_sub hl [1] rfl)
        · replace hf := (if_neg c6).symm.trans hf
          exact J34 _ _ _ _ hf hW (lv_sub hl [1] rfl)
def f2_makeRoomForNew_j113 (S : Ob) : Option Ob :=
  ((f2_makeRoom (0 : Int32) S).bind (fun S29 => (some S29)))
def f2_makeRoomForNew (S : Ob) : Option Ob :=
  (rd 4 (S 7 2) (0 : Int32) (fun v2 => (rd 4 (S 7 2) (2 : Int32) (fun v4 => (rd 4 (S 7 2) (1 : Int32) (fun v6 => (rd 4 (S 7 2) (3 : Int32) (fun v8 => (if (v2 + v4) < (S 6 0 1) then (if (((v2 + v4) + v6) + v8) < (S 6 0 1) then (some S) else (if (((v2 + v4) + v6) + v8) < ((2 : Int32) * (S 6 0 1)) then (f2_makeRoomForNew_j113 S) else ((f5_dropFirst 4 (3 : Int32) (S 7)).bind (fun g13 => (st (va_up S 7 g13) (fun S14 => (f2_makeRoomForNew_j113 S14))))))) else (if (S 6 0 1) ≤ v2 then ((f5_dropFirst 4 (0 : Int32) (S 7)).bind (fun g18 => (st (va_up S 7 g18) (fun S19 => (some S19))))) else ((f5_dropFirst 4 (2 : Int32) (S 7)).bind (fun g22 => (st (va_up S 7 g22) (fun S23 => ((f2_makeRoom (0 : Int32) S23).bind (fun S26 => (some S26)))))))))))))))))
set_option maxHeartbeats 4000000 in
set_option maxRecDepth 100000 in
theorem f2_makeRoomForNew_ok (l : Launch) (D : va_G) (cy : Nat → ClassId) (ad : Nat → Nat → Nat → Nat) (ns : List (Nat × Nat × Nat)) (M : Me) (t : Nat) (hI : IsPl cy ad ns t) (S : Ob) (m2 : Ob)  (hf : f2_makeRoomForNew S = some m2) : Cv l yX2_makeRoomForNew (.code yX2_makeRoomForNew cX2_makeRoomForNew 4 none :: tk_tb) { frames := 3, cells := 0, slots := 0, locals := 72 } D cy ad ns [.ref (ad t 6 0)] (va_up M t S) (va_up M t m2) := by
  refine Cv.of (by decide) (Nat.le_of_ble_eq_true rfl) ?_
  intro p e s m below meth c ls hE hW hl
  obtain ⟨hx, hb, hr, hml, hown, hts, hlk, hK⟩ := hE
  have hA : ∀ q : Nat, s.heap.size ≤ q → Aw ad ns s.heap.size q := fun q h => Or.inr h
  have hl : lv_has ls 4 [(0, .ref (ad t 6 0))] := hl
  unfold f2_makeRoomForNew at hf
  have J113 : ∀ (S : Ob) (H : Heap) (locs : List Loc) (ls : Array Slot), f2_makeRoomForNew_j113 S = some m2 → Wl D cy ad ns (Aw ad ns s.heap.size) s.heap (va_up M t S) H locs → lv_has ls 4 [(0, .ref (ad t 6 0))] → W p l e { frames := 3, cells := 0, slots := 0, locals := 72 } s m ([.ref (ad t 6 0)] : List Value).toArray below meth c H locs 0 0 (QV below D cy ad ns [.ref (ad t 6 0)] s (va_up M t m2)) (F0 m 113 ls []) := by
    intro S H locs ls hf hW hl
    unfold f2_makeRoomForNew_j113 at hf
    refine lv_aload_n hx hb dX2_makeRoomForNew_113 rfl (lv_at hl 0 rfl) ?_
    refine lv_iconst (v := 0) hx hb dX2_makeRoomForNew_114 (by decide) ?_
    obtain ⟨S29, hc28, hf⟩ := bd_some hf
    have hC30 := f2_makeRoom_ok l D cy ad ns M t hI S (0 : Int32) S29 hc28
    refine x_vv (n := 1) (As := [.int (0 : Int32)]) (rest := []) hx hb hml hts hown hK hW hA hC30 (hI.2 6 0 (by decide)) up_io (hI.1 6 0 _) rfl rfl t_603 t_605 p_16 t_5 t_606 rfl (by decide +kernel) rfl rfl ⟨Nat.le_of_ble_eq_true rfl, Nat.le_of_ble_eq_true rfl⟩ hl.1 rfl (lv_room (Nat.le_of_ble_eq_true rfl)) dX2_makeRoomForNew_115 ⟨(Nat.le_of_ble_eq_true rfl), (Nat.le_of_ble_eq_true rfl)⟩ (fun H locs hW => ?_)
    exact x_vret hx hb hr hlk hK hW (congrArg (fun q => (va_up M t q)) (Option.some.inj hf)) dX2_makeRoomForNew_118
  refine lv_aload_n hx hb dX2_makeRoomForNew_0 rfl (lv_at hl 0 rfl) ?_
  refine x_get hx hb hts hown hK hW (hI.2 6 0 (by decide)) up_io (hI.1 6 0 _) rfl inX2 0 (by decide) t_122 rfl dX2_makeRoomForNew_1 ?_
  refine x_get hx hb hts hown hK hW (hI.2 7 0 (by decide)) up_io (hI.1 7 0 _) rfl inX5 1 (by decide) t_98 rfl dX2_makeRoomForNew_4 ?_
  refine lv_iconst (v := 0) hx hb dX2_makeRoomForNew_7 (by decide) ?_
  obtain ⟨hi1, hf⟩ := rd_some hf
  refine x_iald hx hb hK hW (hI.2 7 2 (by decide)) up_io (hI.1 7 2 _) hi1 dX2_makeRoomForNew_8 ?_
  generalize S 7 2 ((0 : Int32)).toNatClampNeg = v2 at hf ⊢
  refine lv_istore_n (lv' := [(1, .int v2), (0, .ref (ad t 6 0))]) hx hb dX2_makeRoomForNew_9 rfl hl (by decide) rfl (fun ls hl => ?_)
  refine lv_iload_n hx hb dX2_makeRoomForNew_10 rfl (lv_at hl 0 rfl) ?_
  refine lv_aload_n hx hb dX2_makeRoomForNew_11 rfl (lv_at hl 1 rfl) ?_
  refine x_get hx hb hts hown hK hW (hI.2 6 0 (by decide)) up_io (hI.1 6 0 _) rfl inX2 0 (by decide) t_122 rfl dX2_makeRoomForNew_12 ?_
  refine x_get hx hb hts hown hK hW (hI.2 7 0 (by decide)) up_io (hI.1 7 0 _) rfl inX5 1 (by decide) t_98 rfl dX2_makeRoomForNew_15 ?_
  refine lv_iconst (v := 2) hx hb dX2_makeRoomForNew_18 (by decide) ?_
  obtain ⟨hi3, hf⟩ := rd_some hf
  refine x_iald hx hb hK hW (hI.2 7 2 (by decide)) up_io (hI.1 7 2 _) hi3 dX2_makeRoomForNew_19 ?_
  generalize S 7 2 ((2 : Int32)).toNatClampNeg = v4 at hf ⊢
  refine lv_iadd hx hb dX2_makeRoomForNew_20 ?_
  refine lv_istore_n (lv' := [(2, .int (v2 + v4)), (1, .int v2), (0, .ref (ad t 6 0))]) hx hb dX2_makeRoomForNew_21 rfl hl (by decide) rfl (fun ls hl => ?_)
  refine lv_iload_n hx hb dX2_makeRoomForNew_22 rfl (lv_at hl 0 rfl) ?_
  refine lv_aload_n hx hb dX2_makeRoomForNew_23 rfl (lv_at hl 2 rfl) ?_
  refine x_get hx hb hts hown hK hW (hI.2 6 0 (by decide)) up_io (hI.1 6 0 _) rfl inX2 0 (by decide) t_122 rfl dX2_makeRoomForNew_24 ?_
  refine x_get hx hb hts hown hK hW (hI.2 7 0 (by decide)) up_io (hI.1 7 0 _) rfl inX5 1 (by decide) t_98 rfl dX2_makeRoomForNew_27 ?_
  refine lv_iconst (v := 1) hx hb dX2_makeRoomForNew_30 (by decide) ?_
  obtain ⟨hi5, hf⟩ := rd_some hf
  refine x_iald hx hb hK hW (hI.2 7 2 (by decide)) up_io (hI.1 7 2 _) hi5 dX2_makeRoomForNew_31 ?_
  generalize S 7 2 ((1 : Int32)).toNatClampNeg = v6 at hf ⊢
  refine lv_iadd hx hb dX2_makeRoomForNew_32 ?_
  refine lv_aload_n hx hb dX2_makeRoomForNew_33 rfl (lv_at hl 2 rfl) ?_
  refine x_get hx hb hts hown hK hW (hI.2 6 0 (by decide)) up_io (hI.1 6 0 _) rfl inX2 0 (by decide) t_122 rfl dX2_makeRoomForNew_34 ?_
  refine x_get hx hb hts hown hK hW (hI.2 7 0 (by decide)) up_io (hI.1 7 0 _) rfl inX5 1 (by decide) t_98 rfl dX2_makeRoomForNew_37 ?_
  refine lv_iconst (v := 3) hx hb dX2_makeRoomForNew_40 (by decide) ?_
  obtain ⟨hi7, hf⟩ := rd_some hf
  refine x_iald hx hb hK hW (hI.2 7 2 (by decide)) up_io (hI.1 7 2 _) hi7 dX2_makeRoomForNew_41 ?_
  generalize S 7 2 ((3 : Int32)).toNatClampNeg = v8 at hf ⊢
  refine lv_iadd hx hb dX2_makeRoomForNew_42 ?_
  refine lv_istore_n (lv' := [(3, .int (((v2 + v4) + v6) + v8)), (2, .int (v2 + v4)), (1, .int v2), (0, .ref (ad t 6 0))]) hx hb dX2_makeRoomForNew_43 rfl hl (by decide) rfl (fun ls hl => ?_)
  refine lv_iload_n hx hb dX2_makeRoomForNew_44 rfl (lv_at hl 1 rfl) ?_
  refine lv_aload_n hx hb dX2_makeRoomForNew_45 rfl (lv_at hl 3 rfl) ?_
  refine x_get hx hb hts hown hK hW (hI.2 6 0 (by decide)) up_io (hI.1 6 0 _) rfl inX2 1 (by decide) t_123 rfl dX2_makeRoomForNew_46 ?_
  refine lv_icmp_lt (tgt := 87) hx hb dX2_makeRoomForNew_49 (by decide) (fun c9 => ?_) (fun c9 => ?_)
  · replace hf := (if_pos c9).symm.trans hf
    refine lv_iload_n hx hb dX2_makeRoomForNew_87 rfl (lv_at hl 0 rfl) ?_
    refine lv_aload_n hx hb dX2_makeRoomForNew_88 rfl (lv_at hl 3 rfl) ?_
    refine x_get hx hb hts hown hK hW (hI.2 6 0 (by decide)) up_io (hI.1 6 0 _) rfl inX2 1 (by decide) t_123 rfl dX2_makeRoomForNew_89 ?_
    refine lv_icmp_lt (tgt := 118) hx hb dX2_makeRoomForNew_92 (by decide) (fun c10 => ?_) (fun c10 => ?_)
    · replace hf := (if_pos c10).symm.trans hf
      exact x_vret hx hb hr hlk hK hW (congrArg (fun q => (va_up M t q)) (Option.some.inj hf)) dX2_makeRoomForNew_118
    · replace hf := (if_neg c10).symm.trans hf
      refine lv_iload_n hx hb dX2_makeRoomForNew_95 rfl (lv_at hl 0 rfl) ?_
      refine lv_iconst (v := 2) hx hb dX2_makeRoomForNew_96 (by decide) ?_
      refine lv_aload_n hx hb dX2_makeRoomForNew_97 rfl (lv_at hl 3 rfl) ?_
      refine x_get hx hb hts hown hK hW (hI.2 6 0 (by decide)) up_io (hI.1 6 0 _) rfl inX2 1 (by decide) t_123 rfl dX2_makeRoomForNew_98 ?_
      refine lv_imul hx hb dX2_makeRoomForNew_101 ?_
      refine lv_icmp_lt (tgt := 113) hx hb dX2_makeRoomForNew_102 (by decide) (fun c11 => ?_) (fun c11 => ?_)
      · replace hf := (if_pos c11).symm.trans hf
        exact J113 _ _ _ _ hf hW (lv_sub hl [3] rfl)
      · replace hf := (if_neg c11).symm.trans hf
        refine lv_aload_n hx hb dX2_makeRoomForNew_105 rfl (lv_at hl 3 rfl) ?_
        refine x_get hx hb hts hown hK hW (hI.2 6 0 (by decide)) up_io (hI.1 6 0 _) rfl inX2 0 (by decide) t_122 rfl dX2_makeRoomForNew_106 ?_
        refine lv_iconst (v := 3) hx hb dX2_makeRoomForNew_109 (by decide) ?_
        obtain ⟨g13, hc12, hf⟩ := bd_some hf
        replace hf := st_some hf
        have hC15 := f5_dropFirst_ok l D cy ad ns (va_up M t S) t 7 4 (by decide) (hI.pl_7) (S 7) (3 : Int32) g13 hc12
        rw [uI_gid, uI_grp] at hC15
        refine x_vv (n := 1) (As := [.int (3 : Int32)]) (rest := []) hx hb hml hts hown hK hW hA hC15 (hI.2 7 0 (by decide)) up_io (hI.1 7 0 _) rfl rfl t_598 t_599 t_600 t_6 t_601 rfl (by decide +kernel) rfl rfl ⟨Nat.le_of_ble_eq_true rfl, Nat.le_of_ble_eq_true rfl⟩ hl.1 rfl (lv_room (Nat.le_of_ble_eq_true rfl)) dX2_makeRoomForNew_110 ⟨(Nat.le_of_ble_eq_true rfl), (Nat.le_of_ble_eq_true rfl)⟩ (fun H locs hW => ?_)
        generalize (va_up S 7 g13) = S14 at hf hW
        exact J113 _ _ _ _ hf hW (lv_sub hl [3] rfl)
  · replace hf := (if_neg c9).symm.trans hf
    refine lv_iload_n hx hb dX2_makeRoomForNew_52 rfl (lv_at hl 2 rfl) ?_
    refine lv_aload_n hx hb dX2_makeRoomForNew_53 rfl (lv_at hl 3 rfl) ?_
    refine x_get hx hb hts hown hK hW (hI.2 6 0 (by decide)) up_io (hI.1 6 0 _) rfl inX2 1 (by decide) t_123 rfl dX2_makeRoomForNew_54 ?_
    refine lv_icmp_ge (tgt := 76) hx hb dX2_makeRoomForNew_57 (by decide) (fun c16 => ?_) (fun c16 => ?_)
    · replace hf := (if_pos c16).symm.trans hf
      refine lv_aload_n hx hb dX2_makeRoomForNew_76 rfl (lv_at hl 3 rfl) ?_
      refine x_get hx hb hts hown hK hW (hI.2 6 0 (by decide)) up_io (hI.1 6 0 _) rfl inX2 0 (by decide) t_122 rfl dX2_makeRoomForNew_77 ?_
      refine lv_iconst (v := 0) hx hb dX2_makeRoomForNew_80 (by decide) ?_
      obtain ⟨g18, hc17, hf⟩ := bd_some hf
      replace hf := st_some hf
      have hC20 := f5_dropFirst_ok l D cy ad ns (va_up M t S) t 7 4 (by decide) (hI.pl_7) (S 7) (0 : Int32) g18 hc17
      rw [uI_gid, uI_grp] at hC20
      refine x_vv (n := 1) (As := [.int (0 : Int32)]) (rest := []) hx hb hml hts hown hK hW hA hC20 (hI.2 7 0 (by decide)) up_io (hI.1 7 0 _) rfl rfl t_598 t_599 t_600 t_6 t_601 rfl (by decide +kernel) rfl rfl ⟨Nat.le_of_ble_eq_true rfl, Nat.le_of_ble_eq_true rfl⟩ hl.1 rfl (lv_room (Nat.le_of_ble_eq_true rfl)) dX2_makeRoomForNew_81 ⟨(Nat.le_of_ble_eq_true rfl), (Nat.le_of_ble_eq_true rfl)⟩ (fun H locs hW => ?_)
      generalize (va_up S 7 g18) = S19 at hf hW
      refine lv_goto (tgt := 118) hx hb dX2_makeRoomForNew_84 (by decide) ?_
      exact x_vret hx hb hr hlk hK hW (congrArg (fun q => (va_up M t q)) (Option.some.inj hf)) dX2_makeRoomForNew_118
    · replace hf := (if_neg c16).symm.trans hf
      refine lv_aload_n hx hb dX2_makeRoomForNew_60 rfl (lv_at hl 3 rfl) ?_
      refine x_get hx hb hts hown hK hW (hI.2 6 0 (by decide)) up_io (hI.1 6 0 _) rfl inX2 0 (by decide) t_122 rfl dX2_makeRoomForNew_61 ?_
      refine lv_iconst (v := 2) hx hb dX2_makeRoomForNew_64 (by decide) ?_
      obtain ⟨g22, hc21, hf⟩ := bd_some hf
      replace hf := st_some hf
      have hC24 := f5_dropFirst_ok l D cy ad ns (va_up M t S) t 7 4 (by decide) (hI.pl_7) (S 7) (2 : Int32) g22 hc21
      rw [uI_gid, uI_grp] at hC24
      refine x_vv (n := 1) (As := [.int (2 : Int32)]) (rest := []) hx hb hml hts hown hK hW hA hC24 (hI.2 7 0 (by decide)) up_io (hI.1 7 0 _) rfl rfl t_598 t_599 t_600 t_6 t_601 rfl (by decide +kernel) rfl rfl ⟨Nat.le_of_ble_eq_true rfl, Nat.le_of_ble_eq_true rfl⟩ hl.1 rfl (lv_room (Nat.le_of_ble_eq_true rfl)) dX2_makeRoomForNew_65 ⟨(Nat.le_of_ble_eq_true rfl), (Nat.le_of_ble_eq_true rfl)⟩ (fun H locs hW => ?_)
      generalize (va_up S 7 g22) = S23 at hf hW
      refine lv_aload_n hx hb dX2_makeRoomForNew_68 rfl (lv_at hl 3 rfl) ?_
      refine lv_iconst (v := 0) hx hb dX2_makeRoomForNew_69 (by decide) ?_
      obtain ⟨S26, hc25, hf⟩ := bd_some hf
      have hC27 := f2_makeRoom_ok l D cy ad ns M t hI S23 (0 : Int32) S26 hc25
      refine x_vv (n := 1) (As := [.int (0 : Int32)]) (rest := []) hx hb hml hts hown hK hW hA hC27 (hI.2 6 0 (by decide)) up_io (hI.1 6 0 _) rfl rfl t_603 t_605 p_16 t_5 t_606 rfl (by decide +kernel) rfl rfl ⟨Nat.le_of_ble_eq_true rfl, Nat.le_of_ble_eq_true rfl⟩ hl.1 rfl (lv_room (Nat.le_of_ble_eq_true rfl)) dX2_makeRoomForNew_70 ⟨(Nat.le_of_ble_eq_true rfl), (Nat.le_of_ble_eq_true rfl)⟩ (fun H locs hW => ?_)
      refine lv_goto (tgt := 118) hx hb dX2_makeRoomForNew_73 (by decide) ?_
      exact x_vret hx hb hr hlk hK hW (congrArg (fun q => (va_up M t q)) (Option.some.inj hf)) dX2_makeRoomForNew_118
def f2_asks_j128 (w1 : Int32) (w4 : Int32) (S : Ob) : Option (Int32 × Ob) :=
  ((f5_moveToLast 4 (1 : Int32) w1 (S 7)).bind (fun g36 => (st (va_up S 7 g36) (fun S37 => (if w4 = 0 then (some ((1 : Int32), S37)) else (if w4 = (1 : Int32) then (some ((1 : Int32), S37)) else (some ((0 : Int32), S37))))))))
def f2_asks (a1 : Int32) (a2 : Int32) (a3 : Int32) (S : Ob) : Option (Int32 × Ob) :=
  (rd 100 (S 7 4) a1 (fun v2 => (if v2 = (-1 : Int32) then ((f2_makeRoomForNew S).bind (fun S29 => ((f5_append 4 (0 : Int32) a1 (S29 7)).bind (fun g32 => (st (va_up S29 7 g32) (fun S33 => (some ((0 : Int32), S33)))))))) else (if v2 = (2 : Int32) then (rd 4 (S 7 2) (3 : Int32) (fun v18 => (rd 4 (S 7 2) (2 : Int32) (fun v20 => ((f2_ratio v18 v20).bind (fun r22 => (st (va_up S 6 (va_up (S 6) 0 (upd (S 6 0) 2 (if ((S 6 0 2) + r22) < (S 6 0 1) then ((S 6 0 2) + r22) else (S 6 0 1))))) (fun S24 => ((f2_makeRoom (0 : Int32) S24).bind (fun S26 => (f2_asks_j128 a1 v2 S26))))))))))) else (if v2 = (3 : Int32) then (rd 4 (S 7 2) (2 : Int32) (fun v7 => (rd 4 (S 7 2) (3 : Int32) (fun v9 => ((f2_ratio v7 v9).bind (fun r11 => (st (va_up S 6 (va_up (S 6) 0 (upd (S 6 0) 2 (if (0 : Int32) < ((S 6 0 2) - r11) then ((S 6 0 2) - r11) else (0 : Int32))))) (fun S13 => ((f2_makeRoom (1 : Int32) S13).bind (fun S15 => (f2_asks_j128 a1 v2 S15))))))))))) else (f2_asks_j128 a1 v2 S))))))
set_option maxHeartbeats 4000000 in
set_option maxRecDepth 100000 in
theorem f2_asks_ok (l : Launch) (D : va_G) (cy : Nat → ClassId) (ad : Nat → Nat → Nat → Nat) (ns : List (Nat × Nat × Nat)) (M : Me) (t : Nat) (hI : IsPl cy ad ns t) (S : Ob) (a1 : Int32) (a2 : Int32) (a3 : Int32) (r : Int32) (m2 : Ob)  (hf : f2_asks a1 a2 a3 S = some (r, m2)) : Ci l yX2_asks (.code yX2_asks cX2_asks 5 (some .boolean) :: tk_tb) { frames := 4, cells := 0, slots := 0, locals := 95 } D cy ad ns [.ref (ad t 6 0), .int a1, .int a2, .int a3] (va_up M t S) r (va_up M t m2) := by
  refine Ci.of (by decide) (Nat.le_of_ble_eq_true rfl) ?_
  intro p e s m below meth c ls hE hW hl
  obtain ⟨hx, hb, hr, hml, hown, hts, hlk, hK⟩ := hE
  have hA : ∀ q : Nat, s.heap.size ≤ q → Aw ad ns s.heap.size q := fun q h => Or.inr h
  have hl : lv_has ls 5 [(0, .ref (ad t 6 0)), (1, .int a1), (2, .int a2), (3, .int a3)] := hl
  unfold f2_asks at hf
  have J128 : ∀ (w1 : Int32) (w4 : Int32) (S : Ob) (H : Heap) (locs : List Loc) (ls : Array Slot), f2_asks_j128 w1 w4 S = some (r, m2) → Wl D cy ad ns (Aw ad ns s.heap.size) s.heap (va_up M t S) H locs → lv_has ls 5 [(0, .ref (ad t 6 0)), (1, .int w1), (4, .int w4)] → W p l e { frames := 4, cells := 0, slots := 0, locals := 95 } s m ([.ref (ad t 6 0), .int a1, .int a2, .int a3] : List Value).toArray below meth c H locs 0 0 (QI below D cy ad ns [.ref (ad t 6 0), .int a1, .int a2, .int a3] s r (va_up M t m2)) (F0 m 128 ls []) := by
    intro w1 w4 S H locs ls hf hW hl
    unfold f2_asks_j128 at hf
    refine lv_aload_n hx hb dX2_asks_128 rfl (lv_at hl 0 rfl) ?_
    refine x_get hx hb hts hown hK hW (hI.2 6 0 (by decide)) up_io (hI.1 6 0 _) rfl inX2 0 (by decide) t_122 rfl dX2_asks_129 ?_
    refine lv_iconst (v := 1) hx hb dX2_asks_132 (by decide) ?_
    refine lv_iload_n hx hb dX2_asks_133 rfl (lv_at hl 1 rfl) ?_
    obtain ⟨g36, hc35, hf⟩ := bd_some hf
    replace hf := st_some hf
    have hC38 := f5_moveToLast_ok l D cy ad ns (va_up M t S) t 7 4 (by decide) (hI.pl_7) (S 7) (1 : Int32) w1 g36 hc35
    rw [uI_gid, uI_grp] at hC38
    refine x_vv (n := 2) (As := [.int (1 : Int32), .int w1]) (rest := []) hx hb hml hts hown hK hW hA hC38 (hI.2 7 0 (by decide)) up_io (hI.1 7 0 _) rfl rfl t_617 t_427 t_428 t_6 t_429 rfl (by decide +kernel) rfl rfl ⟨Nat.le_of_ble_eq_true rfl, Nat.le_of_ble_eq_true rfl⟩ hl.1 rfl (lv_room (Nat.le_of_ble_eq_true rfl)) dX2_asks_134 ⟨(Nat.le_of_ble_eq_true rfl), (Nat.le_of_ble_eq_true rfl)⟩ (fun H locs hW => ?_)
    generalize (va_up S 7 g36) = S37 at hf hW
    refine lv_iload hx hb dX2_asks_137 (lv_at hl 2 rfl) ?_
    refine lv_if_eq (tgt := 148) hx hb dX2_asks_139 (by decide) (fun c39 => ?_) (fun c39 => ?_)
    · replace hf := (if_pos c39).symm.trans hf
      refine lv_iconst (v := 1) hx hb dX2_asks_148 (by decide) ?_
      refine lv_goto (tgt := 153) hx hb dX2_asks_149 (by decide) ?_
      exact x_zret hx hb hr hlk (by first | decide | rfl) hK hW (congrArg Prod.fst (Option.some.inj hf)) (congrArg (fun q => (va_up M t (Prod.snd q))) (Option.some.inj hf)) dX2_asks_153
    · replace hf := (if_neg c39).symm.trans hf
      refine lv_iload hx hb dX2_asks_142 (lv_at hl 2 rfl) ?_
      refine lv_iconst (v := 1) hx hb dX2_asks_144 (by decide) ?_
      refine lv_icmp_ne (tgt := 152) hx hb dX2_asks_145 (by decide) (fun c40 => ?_) (fun c40 => ?_)
      · replace hf := (if_neg c40).symm.trans hf
        refine lv_iconst (v := 0) hx hb dX2_asks_152 (by decide) ?_
        exact x_zret hx hb hr hlk (by first | decide | rfl) hK hW (congrArg Prod.fst (Option.some.inj hf)) (congrArg (fun q => (va_up M t (Prod.snd q))) (Option.some.inj hf)) dX2_asks_153
      · replace hf := (if_pos c40).symm.trans hf
        refine lv_iconst (v := 1) hx hb dX2_asks_148 (by decide) ?_
        refine lv_goto (tgt := 153) hx hb dX2_asks_149 (by decide) ?_
        exact x_zret hx hb hr hlk (by first | decide | rfl) hK hW (congrArg Prod.fst (Option.some.inj hf)) (congrArg (fun q => (va_up M t (Prod.snd q))) (Option.some.inj hf)) dX2_asks_153
  refine lv_aload_n hx hb dX2_asks_0 rfl (lv_at hl 0 rfl) ?_
  refine x_get hx hb hts hown hK hW (hI.2 6 0 (by decide)) up_io (hI.1 6 0 _) rfl inX2 0 (by decide) t_122 rfl dX2_asks_1 ?_
  refine x_get hx hb hts hown hK hW (hI.2 7 0 (by decide)) up_io (hI.1 7 0 _) rfl inX5 3 (by decide) t_105 rfl dX2_asks_4 ?_
  refine lv_iload_n hx hb dX2_asks_7 rfl (lv_at hl 1 rfl) ?_
  obtain ⟨hi1, hf⟩ := rd_some hf
  refine x_iald hx hb hK hW (hI.2 7 4 (by decide)) up_io (hI.1 7 4 _) hi1 dX2_asks_8 ?_
  generalize S 7 4 (a1).toNatClampNeg = v2 at hf ⊢
  refine lv_istore (lv' := [(4, .int v2), (0, .ref (ad t 6 0)), (1, .int a1), (2, .int a2), (3, .int a3)]) hx hb dX2_asks_9 hl (by decide) rfl (fun ls hl => ?_)
  refine lv_iload hx hb dX2_asks_11 (lv_at hl 0 rfl) ?_
  refine lv_iconst (v := -1) hx hb dX2_asks_13 (by decide) ?_
  refine lv_icmp_ne (tgt := 32) hx hb dX2_asks_14 (by decide) (fun c3 => ?_) (fun c3 => ?_)
  · replace hf := (if_neg c3).symm.trans hf
    refine lv_iload hx hb dX2_asks_32 (lv_at hl 0 rfl) ?_
    refine lv_iconst (v := 2) hx hb dX2_asks_34 (by decide) ?_
    refine lv_icmp_ne (tgt := 83) hx hb dX2_asks_35 (by decide) (fun c4 => ?_) (fun c4 => ?_)
    · replace hf := (if_neg c4).symm.trans hf
      refine lv_iload hx hb dX2_asks_83 (lv_at hl 0 rfl) ?_
      refine lv_iconst (v := 3) hx hb dX2_asks_85 (by decide) ?_
      refine lv_icmp_ne (tgt := 128) hx hb dX2_asks_86 (by decide) (fun c5 => ?_) (fun c5 => ?_)
      · replace hf := (if_neg c5).symm.trans hf
        exact J128 _ _ _ _ _ _ hf hW (lv_sub hl [1, 2, 0] rfl)
      · replace hf := (if_pos c5).symm.trans hf
        refine lv_aload_n hx hb dX2_asks_89 rfl (lv_at hl 1 rfl) ?_
        refine lv_iconst (v := 0) hx hb dX2_asks_90 (by decide) ?_
        refine lv_aload_n hx hb dX2_asks_91 rfl (lv_at hl 1 rfl) ?_
        refine x_get hx hb hts hown hK hW (hI.2 6 0 (by decide)) up_io (hI.1 6 0 _) rfl inX2 2 (by decide) t_124 rfl dX2_asks_92 ?_
        refine lv_aload_n hx hb dX2_asks_95 rfl (lv_at hl 1 rfl) ?_
        refine x_get hx hb hts hown hK hW (hI.2 6 0 (by decide)) up_io (hI.1 6 0 _) rfl inX2 0 (by decide) t_122 rfl dX2_asks_96 ?_
        refine x_get hx hb hts hown hK hW (hI.2 7 0 (by decide)) up_io (hI.1 7 0 _) rfl inX5 1 (by decide) t_98 rfl dX2_asks_99 ?_
        refine lv_iconst (v := 2) hx hb dX2_asks_102 (by decide) ?_
        obtain ⟨hi6, hf⟩ := rd_some hf
        refine x_iald hx hb hK hW (hI.2 7 2 (by decide)) up_io (hI.1 7 2 _) hi6 dX2_asks_103 ?_
        generalize S 7 2 ((2 : Int32)).toNatClampNeg = v7 at hf ⊢
        refine lv_aload_n hx hb dX2_asks_104 rfl (lv_at hl 1 rfl) ?_
        refine x_get hx hb hts hown hK hW (hI.2 6 0 (by decide)) up_io (hI.1 6 0 _) rfl inX2 0 (by decide) t_122 rfl dX2_asks_105 ?_
        refine x_get hx hb hts hown hK hW (hI.2 7 0 (by decide)) up_io (hI.1 7 0 _) rfl inX5 1 (by decide) t_98 rfl dX2_asks_108 ?_
        refine lv_iconst (v := 3) hx hb dX2_asks_111 (by decide) ?_
        obtain ⟨hi8, hf⟩ := rd_some hf
        refine x_iald hx hb hK hW (hI.2 7 2 (by decide)) up_io (hI.1 7 2 _) hi8 dX2_asks_112 ?_
        generalize S 7 2 ((3 : Int32)).toNatClampNeg = v9 at hf ⊢
        obtain ⟨r11, hc10, hf⟩ := bd_some hf
        have hC12 := f2_ratio_ok l D cy ad ns (va_up M t S) v7 v9 r11 hc10
        refine x_si (n := 2) (As := [.int v7, .int v9]) (rest := [.int (S 6 0 2), .int (0 : Int32), .ref (ad t 6 0)]) hx hb hml hts hown hK hW hA hC12 t_612 t_613 t_5 t_614 rfl (by decide +kernel) rfl rfl ⟨Nat.le_of_ble_eq_true rfl, Nat.le_of_ble_eq_true rfl⟩ hl.1 rfl (lv_room (Nat.le_of_ble_eq_true rfl)) dX2_asks_113 ⟨(Nat.le_of_ble_eq_true rfl), (Nat.le_of_ble_eq_true rfl)⟩ (fun H locs hW => ?_)
        refine lv_isub hx hb dX2_asks_116 ?_
        refine va_mmax hx hb (hml.trans hl.1.symm) hown (hts _ t_615) (hts _ t_88) (hts _ t_7) (hts _ t_89) (Nat.le_of_ble_eq_true rfl) (Nat.le_of_ble_eq_true rfl) (Nat.zero_le _) (Nat.zero_le _) dX2_asks_117 ?_
        replace hf := st_some hf
        refine x_put hx hb hts hown hK hW (hI.2 6 0 (by decide)) up_io (hI.1 6 0 _) rfl inX2 tyX2 tyX2_ok nmX2 2 (by decide) t_124 rfl rfl (Nat.le_of_ble_eq_true rfl) (hI.1 6 0 _) uC_grp dX2_asks_120 (fun H locs hW => ?_)
        generalize (va_up S 6 (va_up (S 6) 0 (upd (S 6 0) 2 (if (0 : Int32) < ((S 6 0 2) - r11) then ((S 6 0 2) - r11) else (0 : Int32))))) = S13 at hf hW
        refine lv_aload_n hx hb dX2_asks_123 rfl (lv_at hl 1 rfl) ?_
        refine lv_iconst (v := 1) hx hb dX2_asks_124 (by decide) ?_
        obtain ⟨S15, hc14, hf⟩ := bd_some hf
        have hC16 := f2_makeRoom_ok l D cy ad ns M t hI S13 (1 : Int32) S15 hc14
        refine x_vv (n := 1) (As := [.int (1 : Int32)]) (rest := []) hx hb hml hts hown hK hW hA hC16 (hI.2 6 0 (by decide)) up_io (hI.1 6 0 _) rfl rfl t_603 t_605 p_16 t_5 t_606 rfl (by decide +kernel) rfl rfl ⟨Nat.le_of_ble_eq_true rfl, Nat.le_of_ble_eq_true rfl⟩ hl.1 rfl (lv_room (Nat.le_of_ble_eq_true rfl)) dX2_asks_125 ⟨(Nat.le_of_ble_eq_true rfl), (Nat.le_of_ble_eq_true rfl)⟩ (fun H locs hW => ?_)
        exact J128 _ _ _ _ _ _ hf hW (lv_sub hl [1, 2, 0] rfl)
    · replace hf := (if_pos c4).symm.trans hf
      refine lv_aload_n hx hb dX2_asks_38 rfl (lv_at hl 1 rfl) ?_
      refine lv_aload_n hx hb dX2_asks_39 rfl (lv_at hl 1 rfl) ?_
      refine x_get hx hb hts hown hK hW (hI.2 6 0 (by decide)) up_io (hI.1 6 0 _) rfl inX2 1 (by decide) t_123 rfl dX2_asks_40 ?_
      refine lv_aload_n hx hb dX2_asks_43 rfl (lv_at hl 1 rfl) ?_
      refine x_get hx hb hts hown hK hW (hI.2 6 0 (by decide)) up_io (hI.1 6 0 _) rfl inX2 2 (by decide) t_124 rfl dX2_asks_44 ?_
      refine lv_aload_n hx hb dX2_asks_47 rfl (lv_at hl 1 rfl) ?_
      refine x_get hx hb hts hown hK hW (hI.2 6 0 (by decide)) up_io (hI.1 6 0 _) rfl inX2 0 (by decide) t_122 rfl dX2_asks_48 ?_
      refine x_get hx hb hts hown hK hW (hI.2 7 0 (by decide)) up_io (hI.1 7 0 _) rfl inX5 1 (by decide) t_98 rfl dX2_asks_51 ?_
      refine lv_iconst (v := 3) hx hb dX2_asks_54 (by decide) ?_
      obtain ⟨hi17, hf⟩ := rd_some hf
      refine x_iald hx hb hK hW (hI.2 7 2 (by decide)) up_io (hI.1 7 2 _) hi17 dX2_asks_55 ?_
      generalize S 7 2 ((3 : Int32)).toNatClampNeg = v18 at hf ⊢
      refine lv_aload_n hx hb dX2_asks_56 rfl (lv_at hl 1 rfl) ?_
      refine x_get hx hb hts hown hK hW (hI.2 6 0 (by decide)) up_io (hI.1 6 0 _) rfl inX2 0 (by decide) t_122 rfl dX2_asks_57 ?_
      refine x_get hx hb hts hown hK hW (hI.2 7 0 (by decide)) up_io (hI.1 7 0 _) rfl inX5 1 (by decide) t_98 rfl dX2_asks_60 ?_
      refine lv_iconst (v := 2) hx hb dX2_asks_63 (by decide) ?_
      obtain ⟨hi19, hf⟩ := rd_some hf
      refine x_iald hx hb hK hW (hI.2 7 2 (by decide)) up_io (hI.1 7 2 _) hi19 dX2_asks_64 ?_
      generalize S 7 2 ((2 : Int32)).toNatClampNeg = v20 at hf ⊢
      obtain ⟨r22, hc21, hf⟩ := bd_some hf
      have hC23 := f2_ratio_ok l D cy ad ns (va_up M t S) v18 v20 r22 hc21
      refine x_si (n := 2) (As := [.int v18, .int v20]) (rest := [.int (S 6 0 2), .int (S 6 0 1), .ref (ad t 6 0)]) hx hb hml hts hown hK hW hA hC23 t_612 t_613 t_5 t_614 rfl (by decide +kernel) rfl rfl ⟨Nat.le_of_ble_eq_true rfl, Nat.le_of_ble_eq_true rfl⟩ hl.1 rfl (lv_room (Nat.le_of_ble_eq_true rfl)) dX2_asks_65 ⟨(Nat.le_of_ble_eq_true rfl), (Nat.le_of_ble_eq_true rfl)⟩ (fun H locs hW => ?_)
      refine lv_iadd hx hb dX2_asks_68 ?_
      refine va_mmin hx hb (hml.trans hl.1.symm) hown (hts _ t_616) (hts _ t_149) (hts _ t_7) (hts _ t_150) (Nat.le_of_ble_eq_true rfl) (Nat.le_of_ble_eq_true rfl) (Nat.zero_le _) (Nat.zero_le _) dX2_asks_69 ?_
      replace hf := st_some hf
      refine x_put hx hb hts hown hK hW (hI.2 6 0 (by decide)) up_io (hI.1 6 0 _) rfl inX2 tyX2 tyX2_ok nmX2 2 (by decide) t_124 rfl rfl (Nat.le_of_ble_eq_true rfl) (hI.1 6 0 _) uC_grp dX2_asks_72 (fun H locs hW => ?_)
      generalize (va_up S 6 (va_up (S 6) 0 (upd (S 6 0) 2 (if ((S 6 0 2) + r22) < (S 6 0 1) then ((S 6 0 2) + r22) else (S 6 0 1))))) = S24 at hf hW
      refine lv_aload_n hx hb dX2_asks_75 rfl (lv_at hl 1 rfl) ?_
      refine lv_iconst (v := 0) hx hb dX2_asks_76 (by decide) ?_
      obtain ⟨S26, hc25, hf⟩ := bd_some hf
      have hC27 := f2_makeRoom_ok l D cy ad ns M t hI S24 (0 : Int32) S26 hc25
      refine x_vv (n := 1) (As := [.int (0 : Int32)]) (rest := []) hx hb hml hts hown hK hW hA hC27 (hI.2 6 0 (by decide)) up_io (hI.1 6 0 _) rfl rfl t_603 t_605 p_16 t_5 t_606 rfl (by decide +kernel) rfl rfl ⟨Nat.le_of_ble_eq_true rfl, Nat.le_of_ble_eq_true rfl⟩ hl.1 rfl (lv_room (Nat.le_of_ble_eq_true rfl)) dX2_asks_77 ⟨(Nat.le_of_ble_eq_true rfl), (Nat.le_of_ble_eq_true rfl)⟩ (fun H locs hW => ?_)
      refine lv_goto (tgt := 128) hx hb dX2_asks_80 (by decide) ?_
      exact J128 _ _ _ _ _ _ hf hW (lv_sub hl [1, 2, 0] rfl)
  · replace hf := (if_pos c3).symm.trans hf
    refine lv_aload_n hx hb dX2_asks_17 rfl (lv_at hl 1 rfl) ?_
    obtain ⟨S29, hc28, hf⟩ := bd_some hf
    have hC30 := f2_makeRoomForNew_ok l D cy ad ns M t hI S S29 hc28
    refine x_vv (n := 0) (As := []) (rest := []) hx hb hml hts hown hK hW hA hC30 (hI.2 6 0 (by decide)) up_io (hI.1 6 0 _) rfl rfl t_594 t_596 p_15 t_5 t_597 rfl (by decide +kernel) rfl rfl ⟨Nat.le_of_ble_eq_true rfl, Nat.le_of_ble_eq_true rfl⟩ hl.1 rfl (lv_room (Nat.le_of_ble_eq_true rfl)) dX2_asks_18 ⟨(Nat.le_of_ble_eq_true rfl), (Nat.le_of_ble_eq_true rfl)⟩ (fun H locs hW => ?_)
    refine lv_aload_n hx hb dX2_asks_21 rfl (lv_at hl 1 rfl) ?_
    refine x_get hx hb hts hown hK hW (hI.2 6 0 (by decide)) up_io (hI.1 6 0 _) rfl inX2 0 (by decide) t_122 rfl dX2_asks_22 ?_
    refine lv_iconst (v := 0) hx hb dX2_asks_25 (by decide) ?_
    refine lv_iload_n hx hb dX2_asks_26 rfl (lv_at hl 2 rfl) ?_
    obtain ⟨g32, hc31, hf⟩ := bd_some hf
    replace hf := st_some hf
    have hC34 := f5_append_ok l D cy ad ns (va_up M t S29) t 7 4 (by decide) (hI.pl_7) (S29 7) (0 : Int32) a1 g32 hc31
    rw [uI_gid, uI_grp] at hC34
    refine x_vv (n := 2) (As := [.int (0 : Int32), .int a1]) (rest := []) hx hb hml hts hown hK hW hA hC34 (hI.2 7 0 (by decide)) up_io (hI.1 7 0 _) rfl rfl t_611 t_435 t_436 t_6 t_437 rfl (by decide +kernel) rfl rfl ⟨Nat.le_of_ble_eq_true rfl, Nat.le_of_ble_eq_true rfl⟩ hl.1 rfl (lv_room (Nat.le_of_ble_eq_true rfl)) dX2_asks_27 ⟨(Nat.le_of_ble_eq_true rfl), (Nat.le_of_ble_eq_true rfl)⟩ (fun H locs hW => ?_)
    generalize (va_up S29 7 g32) = S33 at hf hW
    refine lv_iconst (v := 0) hx hb dX2_asks_30 (by decide) ?_
    exact x_zret hx hb hr hlk (by first | decide | rfl) hK hW (congrArg Prod.fst (Option.some.inj hf)) (congrArg (fun q => (va_up M t (Prod.snd q))) (Option.some.inj hf)) dX2_asks_31
def f2_holds (S : Ob) (a1 : Int32) : Option Int32 :=
  (rd 100 (S 7 4) a1 (fun v2 => (if v2 = 0 then (some (1 : Int32)) else (rd 100 (S 7 4) a1 (fun v5 => (if v5 = (1 : Int32) then (some (1 : Int32)) else (some (0 : Int32))))))))
set_option maxHeartbeats 4000000 in
set_option maxRecDepth 100000 in
theorem f2_holds_ok (l : Launch) (D : va_G) (cy : Nat → ClassId) (ad : Nat → Nat → Nat → Nat) (ns : List (Nat × Nat × Nat)) (M : Me) (t : Nat) (hI : IsPl cy ad ns t) (S : Ob) (a1 : Int32) (r : Int32)  (hf : f2_holds S a1 = some r) : Ci l yX2_holds (.code yX2_holds cX2_holds 2 (some .boolean) :: tk_tb) { frames := 0, cells := 0, slots := 0, locals := 0 } D cy ad ns [.ref (ad t 6 0), .int a1] (va_up M t S) r (va_up M t S) := by
  refine Ci.of (by decide) (Nat.le_of_ble_eq_true rfl) ?_
  intro p e s m below meth c ls hE hW hl
  obtain ⟨hx, hb, hr, hml, hown, hts, hlk, hK⟩ := hE
  have hA : ∀ q : Nat, s.heap.size ≤ q → Aw ad ns s.heap.size q := fun q h => Or.inr h
  have hl : lv_has ls 2 [(0, .ref (ad t 6 0)), (1, .int a1)] := hl
  unfold f2_holds at hf
  refine lv_aload_n hx hb dX2_holds_0 rfl (lv_at hl 0 rfl) ?_
  refine x_get hx hb hts hown hK hW (hI.2 6 0 (by decide)) up_io (hI.1 6 0 _) rfl inX2 0 (by decide) t_122 rfl dX2_holds_1 ?_
  refine x_get hx hb hts hown hK hW (hI.2 7 0 (by decide)) up_io (hI.1 7 0 _) rfl inX5 3 (by decide) t_105 rfl dX2_holds_4 ?_
  refine lv_iload_n hx hb dX2_holds_7 rfl (lv_at hl 1 rfl) ?_
  obtain ⟨hi1, hf⟩ := rd_some hf
  refine x_iald hx hb hK hW (hI.2 7 4 (by decide)) up_io (hI.1 7 4 _) hi1 dX2_holds_8 ?_
  generalize S 7 4 (a1).toNatClampNeg = v2 at hf ⊢
  refine lv_if_eq (tgt := 25) hx hb dX2_holds_9 (by decide) (fun c3 => ?_) (fun c3 => ?_)
  · replace hf := (if_pos c3).symm.trans hf
    refine lv_iconst (v := 1) hx hb dX2_holds_25 (by decide) ?_
    refine lv_goto (tgt := 30) hx hb dX2_holds_26 (by decide) ?_
    exact x_zret hx hb hr hlk (by first | decide | rfl) hK hW (Option.some.inj hf) rfl dX2_holds_30
  · replace hf := (if_neg c3).symm.trans hf
    refine lv_aload_n hx hb dX2_holds_12 rfl (lv_at hl 0 rfl) ?_
    refine x_get hx hb hts hown hK hW (hI.2 6 0 (by decide)) up_io (hI.1 6 0 _) rfl inX2 0 (by decide) t_122 rfl dX2_holds_13 ?_
    refine x_get hx hb hts hown hK hW (hI.2 7 0 (by decide)) up_io (hI.1 7 0 _) rfl inX5 3 (by decide) t_105 rfl dX2_holds_16 ?_
    refine lv_iload_n hx hb dX2_holds_19 rfl (lv_at hl 1 rfl) ?_
    obtain ⟨hi4, hf⟩ := rd_some hf
    refine x_iald hx hb hK hW (hI.2 7 4 (by decide)) up_io (hI.1 7 4 _) hi4 dX2_holds_20 ?_
    generalize S 7 4 (a1).toNatClampNeg = v5 at hf ⊢
    refine lv_iconst (v := 1) hx hb dX2_holds_21 (by decide) ?_
    refine lv_icmp_ne (tgt := 29) hx hb dX2_holds_22 (by decide) (fun c6 => ?_) (fun c6 => ?_)
    · replace hf := (if_neg c6).symm.trans hf
      refine lv_iconst (v := 0) hx hb dX2_holds_29 (by decide) ?_
      exact x_zret hx hb hr hlk (by first | decide | rfl) hK hW (Option.some.inj hf) rfl dX2_holds_30
    · replace hf := (if_pos c6).symm.trans hf
      refine lv_iconst (v := 1) hx hb dX2_holds_25 (by decide) ?_
      refine lv_goto (tgt := 30) hx hb dX2_holds_26 (by decide) ?_
      exact x_zret hx hb hr hlk (by first | decide | rfl) hK hW (Option.some.inj hf) rfl dX2_holds_30
