def f8_tellRule (a1 : Int32) (a2 : Int32) (S : Ob) : Option (Int32 × Ob) :=
  (if a1 = 0 then (b2 (f7_tellDoorInUse a2 (S 2)) (fun r5 g3 => (st (va_up S 2 g3) (fun S4 => (some (r5, S4)))))) else (if a1 = 1 then (b2 (f7_tellCareful a2 (S 2)) (fun r11 g9 => (st (va_up S 2 g9) (fun S10 => (some (r11, S10)))))) else (if a1 = 2 then (b2 (f7_tellSample a2 (S 2)) (fun r17 g15 => (st (va_up S 2 g15) (fun S16 => (some (r17, S16)))))) else (if a1 = 3 then (b2 (f0_tellMode a2 S) (fun r22 S21 => (some (r22, S21)))) else (if a1 = 4 then (b2 (f1_tellStep a2 (S 5)) (fun r28 g26 => (st (va_up S 5 g26) (fun S27 => (some (r28, S27)))))) else (if a1 = 5 then (b2 (f1_tellPeriod a2 (S 5)) (fun r34 g32 => (st (va_up S 5 g32) (fun S33 => (some (r34, S33)))))) else (some ((-2 : Int32), S))))))))
set_option maxHeartbeats 4000000 in
set_option maxRecDepth 100000 in
theorem f8_tellRule_ok (l : Launch) (D : va_G) (cy : Nat → ClassId) (ad : Nat → Nat → Nat → Nat) (ns : List (Nat × Nat × Nat)) (M : Me) (t : Nat) (hI : IsSt cy ad ns t) (S : Ob) (a1 : Int32) (a2 : Int32) (r : Int32) (m2 : Ob)  (hf : f8_tellRule a1 a2 S = some (r, m2)) : Ci l yX8_tellRule (.code yX8_tellRule cX8_tellRule 3 (some .int) :: tk_tb) { frames := 3, cells := 0, slots := 0, locals := 67 } D cy ad ns [.ref (ad t 0 0), .int a1, .int a2] (va_up M t S) r (va_up M t m2) := by
  refine Ci.of (by decide) (Nat.le_of_ble_eq_true rfl) ?_
  intro p e s m below meth c ls hE hW hl
  obtain ⟨hx, hb, hr, hml, hown, hts, hlk, hK⟩ := hE
  have hA : ∀ q : Nat, s.heap.size ≤ q → Aw ad ns s.heap.size q := fun q h => Or.inr h
  have hl : lv_has ls 3 [(0, .ref (ad t 0 0)), (1, .int a1), (2, .int a2)] := hl
  unfold f8_tellRule at hf
  refine lv_iload_n hx hb dX8_tellRule_0 rfl (lv_at hl 1 rfl) ?_
  by_cases c1 : a1 = 0
  · replace hf := (if_pos c1).symm.trans hf
    refine x_tab (v := 0) c1 hx hb dX8_tellRule_1 (by decide) (by decide) rfl (by decide) (tgt := 40) ?_
    refine lv_aload_n hx hb dX8_tellRule_40 rfl (lv_at hl 0 rfl) ?_
    refine x_get hx hb hts hown hK hW (hI.2 0 0 (by decide)) up_io (hI.1 0 0 _) rfl inX8 0 (by decide) t_284 rfl dX8_tellRule_41 ?_
    refine x_get hx hb hts hown hK hW (hI.2 1 0 (by decide)) up_io (hI.1 1 0 _) rfl inX0 0 (by decide) t_260 rfl dX8_tellRule_44 ?_
    refine lv_iload_n hx hb dX8_tellRule_47 rfl (lv_at hl 2 rfl) ?_
    obtain ⟨r5, g3, hc2, hf⟩ := b2_some hf
    replace hf := st_some hf
    have hC6 := f7_tellDoorInUse_ok l D cy ad ns (va_up M t S) t 2 (hI.at_2) (S 2) a2 r5 g3 hc2
    rw [uI_gid, uI_grp] at hC6
    refine x_vi (n := 1) (As := [.int a2]) (rest := []) hx hb hml hts hown hK hW hA hC6 (hI.2 2 0 (by decide)) up_io (hI.1 2 0 _) rfl rfl t_358 t_359 t_360 t_13 t_361 rfl (by decide +kernel) rfl rfl ⟨Nat.le_of_ble_eq_true rfl, Nat.le_of_ble_eq_true rfl⟩ hl.1 rfl (lv_room (Nat.le_of_ble_eq_true rfl)) dX8_tellRule_48 ⟨(Nat.le_of_ble_eq_true rfl), (Nat.le_of_ble_eq_true rfl)⟩ (fun H locs hW => ?_)
    generalize (va_up S 2 g3) = S4 at hf hW
    exact x_iret hx hb hr hlk hK hW (congrArg Prod.fst (Option.some.inj hf)) (congrArg (fun q => (va_up M t (Prod.snd q))) (Option.some.inj hf)) dX8_tellRule_51
  · replace hf := (if_neg c1).symm.trans hf
    by_cases c7 : a1 = 1
    · replace hf := (if_pos c7).symm.trans hf
      refine x_tab (v := 1) c7 hx hb dX8_tellRule_1 (by decide) (by decide) rfl (by decide) (tgt := 52) ?_
      refine lv_aload_n hx hb dX8_tellRule_52 rfl (lv_at hl 0 rfl) ?_
      refine x_get hx hb hts hown hK hW (hI.2 0 0 (by decide)) up_io (hI.1 0 0 _) rfl inX8 0 (by decide) t_284 rfl dX8_tellRule_53 ?_
      refine x_get hx hb hts hown hK hW (hI.2 1 0 (by decide)) up_io (hI.1 1 0 _) rfl inX0 0 (by decide) t_260 rfl dX8_tellRule_56 ?_
      refine lv_iload_n hx hb dX8_tellRule_59 rfl (lv_at hl 2 rfl) ?_
      obtain ⟨r11, g9, hc8, hf⟩ := b2_some hf
      replace hf := st_some hf
      have hC12 := f7_tellCareful_ok l D cy ad ns (va_up M t S) t 2 (hI.at_2) (S 2) a2 r11 g9 hc8
      rw [uI_gid, uI_grp] at hC12
      refine x_vi (n := 1) (As := [.int a2]) (rest := []) hx hb hml hts hown hK hW hA hC12 (hI.2 2 0 (by decide)) up_io (hI.1 2 0 _) rfl rfl t_362 t_363 t_364 t_13 t_365 rfl (by decide +kernel) rfl rfl ⟨Nat.le_of_ble_eq_true rfl, Nat.le_of_ble_eq_true rfl⟩ hl.1 rfl (lv_room (Nat.le_of_ble_eq_true rfl)) dX8_tellRule_60 ⟨(Nat.le_of_ble_eq_true rfl), (Nat.le_of_ble_eq_true rfl)⟩ (fun H locs hW => ?_)
      generalize (va_up S 2 g9) = S10 at hf hW
      exact x_iret hx hb hr hlk hK hW (congrArg Prod.fst (Option.some.inj hf)) (congrArg (fun q => (va_up M t (Prod.snd q))) (Option.some.inj hf)) dX8_tellRule_63
    · replace hf := (if_neg c7).symm.trans hf
      by_cases c13 : a1 = 2
      · replace hf := (if_pos c13).symm.trans hf
        refine x_tab (v := 2) c13 hx hb dX8_tellRule_1 (by decide) (by decide) rfl (by decide) (tgt := 64) ?_
        refine lv_aload_n hx hb dX8_tellRule_64 rfl (lv_at hl 0 rfl) ?_
        refine x_get hx hb hts hown hK hW (hI.2 0 0 (by decide)) up_io (hI.1 0 0 _) rfl inX8 0 (by decide) t_284 rfl dX8_tellRule_65 ?_
        refine x_get hx hb hts hown hK hW (hI.2 1 0 (by decide)) up_io (hI.1 1 0 _) rfl inX0 0 (by decide) t_260 rfl dX8_tellRule_68 ?_
        refine lv_iload_n hx hb dX8_tellRule_71 rfl (lv_at hl 2 rfl) ?_
        obtain ⟨r17, g15, hc14, hf⟩ := b2_some hf
        replace hf := st_some hf
        have hC18 := f7_tellSample_ok l D cy ad ns (va_up M t S) t 2 (hI.at_2) (S 2) a2 r17 g15 hc14
        rw [uI_gid, uI_grp] at hC18
        refine x_vi (n := 1) (As := [.int a2]) (rest := []) hx hb hml hts hown hK hW hA hC18 (hI.2 2 0 (by decide)) up_io (hI.1 2 0 _) rfl rfl t_366 t_367 t_368 t_13 t_369 rfl (by decide +kernel) rfl rfl ⟨Nat.le_of_ble_eq_true rfl, Nat.le_of_ble_eq_true rfl⟩ hl.1 rfl (lv_room (Nat.le_of_ble_eq_true rfl)) dX8_tellRule_72 ⟨(Nat.le_of_ble_eq_true rfl), (Nat.le_of_ble_eq_true rfl)⟩ (fun H locs hW => ?_)
        generalize (va_up S 2 g15) = S16 at hf hW
        exact x_iret hx hb hr hlk hK hW (congrArg Prod.fst (Option.some.inj hf)) (congrArg (fun q => (va_up M t (Prod.snd q))) (Option.some.inj hf)) dX8_tellRule_75
      · replace hf := (if_neg c13).symm.trans hf
        by_cases c19 : a1 = 3
        · replace hf := (if_pos c19).symm.trans hf
          refine x_tab (v := 3) c19 hx hb dX8_tellRule_1 (by decide) (by decide) rfl (by decide) (tgt := 76) ?_
          refine lv_aload_n hx hb dX8_tellRule_76 rfl (lv_at hl 0 rfl) ?_
          refine x_get hx hb hts hown hK hW (hI.2 0 0 (by decide)) up_io (hI.1 0 0 _) rfl inX8 0 (by decide) t_284 rfl dX8_tellRule_77 ?_
          refine lv_iload_n hx hb dX8_tellRule_80 rfl (lv_at hl 2 rfl) ?_
          obtain ⟨r22, S21, hc20, hf⟩ := b2_some hf
          have hC23 := f0_tellMode_ok l D cy ad ns M t hI S a2 r22 S21 hc20
          refine x_vi (n := 1) (As := [.int a2]) (rest := []) hx hb hml hts hown hK hW hA hC23 (hI.2 1 0 (by decide)) up_io (hI.1 1 0 _) rfl rfl t_370 t_371 t_372 t_12 t_373 rfl (by decide +kernel) rfl rfl ⟨Nat.le_of_ble_eq_true rfl, Nat.le_of_ble_eq_true rfl⟩ hl.1 rfl (lv_room (Nat.le_of_ble_eq_true rfl)) dX8_tellRule_81 ⟨(Nat.le_of_ble_eq_true rfl), (Nat.le_of_ble_eq_true rfl)⟩ (fun H locs hW => ?_)
          exact x_iret hx hb hr hlk hK hW (congrArg Prod.fst (Option.some.inj hf)) (congrArg (fun q => (va_up M t (Prod.snd q))) (Option.some.inj hf)) dX8_tellRule_84
        · replace hf := (if_neg c19).symm.trans hf
          by_cases c24 : a1 = 4
          · replace hf := (if_pos c24).symm.trans hf
            refine x_tab (v := 4) c24 hx hb dX8_tellRule_1 (by decide) (by decide) rfl (by decide) (tgt := 85) ?_
            refine lv_aload_n hx hb dX8_tellRule_85 rfl (lv_at hl 0 rfl) ?_
            refine x_get hx hb hts hown hK hW (hI.2 0 0 (by decide)) up_io (hI.1 0 0 _) rfl inX8 2 (by decide) t_288 rfl dX8_tellRule_86 ?_
            refine lv_iload_n hx hb dX8_tellRule_89 rfl (lv_at hl 2 rfl) ?_
            obtain ⟨r28, g26, hc25, hf⟩ := b2_some hf
            replace hf := st_some hf
            have hC29 := f1_tellStep_ok l D cy ad ns (va_up M t S) t 5 (hI.at_5) (S 5) a2 r28 g26 hc25
            rw [uI_gid, uI_grp] at hC29
            refine x_vi (n := 1) (As := [.int a2]) (rest := []) hx hb hml hts hown hK hW hA hC29 (hI.2 5 0 (by decide)) up_io (hI.1 5 0 _) rfl rfl t_374 t_375 t_376 t_11 t_377 rfl (by decide +kernel) rfl rfl ⟨Nat.le_of_ble_eq_true rfl, Nat.le_of_ble_eq_true rfl⟩ hl.1 rfl (lv_room (Nat.le_of_ble_eq_true rfl)) dX8_tellRule_90 ⟨(Nat.le_of_ble_eq_true rfl), (Nat.le_of_ble_eq_true rfl)⟩ (fun H locs hW => ?_)
            generalize (va_up S 5 g26) = S27 at hf hW
            exact x_iret hx hb hr hlk hK hW (congrArg Prod.fst (Option.some.inj hf)) (congrArg (fun q => (va_up M t (Prod.snd q))) (Option.some.inj hf)) dX8_tellRule_93
          · replace hf := (if_neg c24).symm.trans hf
            by_cases c30 : a1 = 5
            · replace hf := (if_pos c30).symm.trans hf
              refine x_tab (v := 5) c30 hx hb dX8_tellRule_1 (by decide) (by decide) rfl (by decide) (tgt := 94) ?_
              refine lv_aload_n hx hb dX8_tellRule_94 rfl (lv_at hl 0 rfl) ?_
              refine x_get hx hb hts hown hK hW (hI.2 0 0 (by decide)) up_io (hI.1 0 0 _) rfl inX8 2 (by decide) t_288 rfl dX8_tellRule_95 ?_
              refine lv_iload_n hx hb dX8_tellRule_98 rfl (lv_at hl 2 rfl) ?_
              obtain ⟨r34, g32, hc31, hf⟩ := b2_some hf
              replace hf := st_some hf
              have hC35 := f1_tellPeriod_ok l D cy ad ns (va_up M t S) t 5 (hI.at_5) (S 5) a2 r34 g32 hc31
              rw [uI_gid, uI_grp] at hC35
              refine x_vi (n := 1) (As := [.int a2]) (rest := []) hx hb hml hts hown hK hW hA hC35 (hI.2 5 0 (by decide)) up_io (hI.1 5 0 _) rfl rfl t_382 t_383 t_384 t_11 t_385 rfl (by decide +kernel) rfl rfl ⟨Nat.le_of_ble_eq_true rfl, Nat.le_of_ble_eq_true rfl⟩ hl.1 rfl (lv_room (Nat.le_of_ble_eq_true rfl)) dX8_tellRule_99 ⟨(Nat.le_of_ble_eq_true rfl), (Nat.le_of_ble_eq_true rfl)⟩ (fun H locs hW => ?_)
              generalize (va_up S 5 g32) = S33 at hf hW
              exact x_iret hx hb hr hlk hK hW (congrArg Prod.fst (Option.some.inj hf)) (congrArg (fun q => (va_up M t (Prod.snd q))) (Option.some.inj hf)) dX8_tellRule_102
            · replace hf := (if_neg c30).symm.trans hf
              refine lv_tableOut (tgt := 103) hx hb dX8_tellRule_1 (by have := ne_toInt (z := 0) (by decide) c1; have := ne_toInt (z := 1) (by decide) c7; have := ne_toInt (z := 2) (by decide) c13; have := ne_toInt (z := 3) (by decide) c19; have := ne_toInt (z := 4) (by decide) c24; have := ne_toInt (z := 5) (by decide) c30; omega) (by decide) ?_
              refine lv_bipush (v := -2) hx hb dX8_tellRule_103 (by decide) ?_
              exact x_iret hx hb hr hlk hK hW (congrArg Prod.fst (Option.some.inj hf)) (congrArg (fun q => (va_up M t (Prod.snd q))) (Option.some.inj hf)) dX8_tellRule_105
def f8_tellAbout (S : Ob) (a1 : Int32) : Option Int32 :=
  (if a1 = 0 then (some (S 1 0 4)) else (if a1 = 1 then ((f0_protectedLimit S).bind (fun r4 => (some r4))) else (if a1 = 2 then (rd 3 (S 3 3) (0 : Int32) (fun v8 => (some v8))) else (if a1 = 3 then (rd 3 (S 3 3) (1 : Int32) (fun v11 => (some v11))) else (if a1 = 4 then (rd 3 (S 3 3) (2 : Int32) (fun v14 => (some v14))) else (if a1 = 5 then ((f0_keysThere S).bind (fun r17 => (some r17))) else (if a1 = 6 then (some (S 2 0 9)) else (if a1 = 7 then (some (S 2 0 10)) else (if a1 = 8 then (some (S 0 0 3)) else (if a1 = 9 then (some (S 0 0 4)) else (if a1 = 10 then (some (S 1 0 5)) else (if a1 = 11 then (some (S 5 0 2)) else (if a1 = 12 then (some (S 5 0 3)) else (if a1 = 13 then (some (S 5 0 4)) else (if a1 = 14 then (some (S 5 0 5)) else (if a1 = 15 then (some (S 4 0 2)) else (some (-2 : Int32))))))))))))))))))
set_option maxHeartbeats 4000000 in
set_option maxRecDepth 100000 in
theorem f8_tellAbout_ok (l : Launch) (D : va_G) (cy : Nat → ClassId) (ad : Nat → Nat → Nat → Nat) (ns : List (Nat × Nat × Nat)) (M : Me) (t : Nat) (hI : IsSt cy ad ns t) (S : Ob) (a1 : Int32) (r : Int32)  (hf : f8_tellAbout S a1 = some r) : Ci l yX8_tellAbout (.code yX8_tellAbout cX8_tellAbout 2 (some .int) :: tk_tb) { frames := 2, cells := 0, slots := 0, locals := 40 } D cy ad ns [.ref (ad t 0 0), .int a1] (va_up M t S) r (va_up M t S) := by
  refine Ci.of (by decide) (Nat.le_of_ble_eq_true rfl) ?_
  intro p e s m below meth c ls hE hW hl
  obtain ⟨hx, hb, hr, hml, hown, hts, hlk, hK⟩ := hE
  have hA : ∀ q : Nat, s.heap.size ≤ q → Aw ad ns s.heap.size q := fun q h => Or.inr h
  have hl : lv_has ls 2 [(0, .ref (ad t 0 0)), (1, .int a1)] := hl
  unfold f8_tellAbout at hf
  refine lv_iload_n hx hb dX8_tellAbout_0 rfl (lv_at hl 1 rfl) ?_
  by_cases c1 : a1 = 0
  · replace hf := (if_pos c1).symm.trans hf
    refine x_tab (v := 0) c1 hx hb dX8_tellAbout_1 (by decide) (by decide) rfl (by decide) (tgt := 80) ?_
    refine lv_aload_n hx hb dX8_tellAbout_80 rfl (lv_at hl 0 rfl) ?_
    refine x_get hx hb hts hown hK hW (hI.2 0 0 (by decide)) up_io (hI.1 0 0 _) rfl inX8 0 (by decide) t_284 rfl dX8_tellAbout_81 ?_
    refine x_get hx hb hts hown hK hW (hI.2 1 0 (by decide)) up_io (hI.1 1 0 _) rfl inX0 4 (by decide) t_268 rfl dX8_tellAbout_84 ?_
    exact x_iret hx hb hr hlk hK hW (Option.some.inj hf) rfl dX8_tellAbout_87
  · replace hf := (if_neg c1).symm.trans hf
    by_cases c2 : a1 = 1
    · replace hf := (if_pos c2).symm.trans hf
      refine x_tab (v := 1) c2 hx hb dX8_tellAbout_1 (by decide) (by decide) rfl (by decide) (tgt := 88) ?_
      refine lv_aload_n hx hb dX8_tellAbout_88 rfl (lv_at hl 0 rfl) ?_
      refine x_get hx hb hts hown hK hW (hI.2 0 0 (by decide)) up_io (hI.1 0 0 _) rfl inX8 0 (by decide) t_284 rfl dX8_tellAbout_89 ?_
      obtain ⟨r4, hc3, hf⟩ := bd_some hf
      have hC5 := f0_protectedLimit_ok l D cy ad ns M t hI S r4 hc3
      refine x_vi (n := 0) (As := []) (rest := []) hx hb hml hts hown hK hW hA hC5 (hI.2 1 0 (by decide)) up_io (hI.1 1 0 _) rfl rfl t_546 t_443 t_444 t_12 t_445 rfl (by decide +kernel) rfl rfl ⟨Nat.le_of_ble_eq_true rfl, Nat.le_of_ble_eq_true rfl⟩ hl.1 rfl (lv_room (Nat.le_of_ble_eq_true rfl)) dX8_tellAbout_92 ⟨(Nat.le_of_ble_eq_true rfl), (Nat.le_of_ble_eq_true rfl)⟩ (fun H locs hW => ?_)
      exact x_iret hx hb hr hlk hK hW (Option.some.inj hf) rfl dX8_tellAbout_95
    · replace hf := (if_neg c2).symm.trans hf
      by_cases c6 : a1 = 2
      · replace hf := (if_pos c6).symm.trans hf
        refine x_tab (v := 2) c6 hx hb dX8_tellAbout_1 (by decide) (by decide) rfl (by decide) (tgt := 96) ?_
        refine lv_aload_n hx hb dX8_tellAbout_96 rfl (lv_at hl 0 rfl) ?_
        refine x_get hx hb hts hown hK hW (hI.2 0 0 (by decide)) up_io (hI.1 0 0 _) rfl inX8 0 (by decide) t_284 rfl dX8_tellAbout_97 ?_
        refine x_get hx hb hts hown hK hW (hI.2 1 0 (by decide)) up_io (hI.1 1 0 _) rfl inX0 1 (by decide) t_263 rfl dX8_tellAbout_100 ?_
        refine x_get hx hb hts hown hK hW (hI.2 3 0 (by decide)) up_io (hI.1 3 0 _) rfl inX5 2 (by decide) t_101 rfl dX8_tellAbout_103 ?_
        refine lv_iconst (v := 0) hx hb dX8_tellAbout_106 (by decide) ?_
        obtain ⟨hi7, hf⟩ := rd_some hf
        refine x_iald hx hb hK hW (hI.2 3 3 (by decide)) up_io (hI.1 3 3 _) hi7 dX8_tellAbout_107 ?_
        generalize S 3 3 ((0 : Int32)).toNatClampNeg = v8 at hf ⊢
        exact x_iret hx hb hr hlk hK hW (Option.some.inj hf) rfl dX8_tellAbout_108
      · replace hf := (if_neg c6).symm.trans hf
        by_cases c9 : a1 = 3
        · replace hf := (if_pos c9).symm.trans hf
          refine x_tab (v := 3) c9 hx hb dX8_tellAbout_1 (by decide) (by decide) rfl (by decide) (tgt := 109) ?_
          refine lv_aload_n hx hb dX8_tellAbout_109 rfl (lv_at hl 0 rfl) ?_
          refine x_get hx hb hts hown hK hW (hI.2 0 0 (by decide)) up_io (hI.1 0 0 _) rfl inX8 0 (by decide) t_284 rfl dX8_tellAbout_110 ?_
          refine x_get hx hb hts hown hK hW (hI.2 1 0 (by decide)) up_io (hI.1 1 0 _) rfl inX0 1 (by decide) t_263 rfl dX8_tellAbout_113 ?_
          refine x_get hx hb hts hown hK hW (hI.2 3 0 (by decide)) up_io (hI.1 3 0 _) rfl inX5 2 (by decide) t_101 rfl dX8_tellAbout_116 ?_
          refine lv_iconst (v := 1) hx hb dX8_tellAbout_119 (by decide) ?_
          obtain ⟨hi10, hf⟩ := rd_some hf
          refine x_iald hx hb hK hW (hI.2 3 3 (by decide)) up_io (hI.1 3 3 _) hi10 dX8_tellAbout_120 ?_
          generalize S 3 3 ((1 : Int32)).toNatClampNeg = v11 at hf ⊢
          exact x_iret hx hb hr hlk hK hW (Option.some.inj hf) rfl dX8_tellAbout_121
        · replace hf := (if_neg c9).symm.trans hf
          by_cases c12 : a1 = 4
          · replace hf := (if_pos c12).symm.trans hf
            refine x_tab (v := 4) c12 hx hb dX8_tellAbout_1 (by decide) (by decide) rfl (by decide) (tgt := 122) ?_
            refine lv_aload_n hx hb dX8_tellAbout_122 rfl (lv_at hl 0 rfl) ?_
            refine x_get hx hb hts hown hK hW (hI.2 0 0 (by decide)) up_io (hI.1 0 0 _) rfl inX8 0 (by decide) t_284 rfl dX8_tellAbout_123 ?_
            refine x_get hx hb hts hown hK hW (hI.2 1 0 (by decide)) up_io (hI.1 1 0 _) rfl inX0 1 (by decide) t_263 rfl dX8_tellAbout_126 ?_
            refine x_get hx hb hts hown hK hW (hI.2 3 0 (by decide)) up_io (hI.1 3 0 _) rfl inX5 2 (by decide) t_101 rfl dX8_tellAbout_129 ?_
            refine lv_iconst (v := 2) hx hb dX8_tellAbout_132 (by decide) ?_
            obtain ⟨hi13, hf⟩ := rd_some hf
            refine x_iald hx hb hK hW (hI.2 3 3 (by decide)) up_io (hI.1 3 3 _) hi13 dX8_tellAbout_133 ?_
            generalize S 3 3 ((2 : Int32)).toNatClampNeg = v14 at hf ⊢
            exact x_iret hx hb hr hlk hK hW (Option.some.inj hf) rfl dX8_tellAbout_134
          · replace hf := (if_neg c12).symm.trans hf
            by_cases c15 : a1 = 5
            · replace hf := (if_pos c15).symm.trans hf
              refine x_tab (v := 5) c15 hx hb dX8_tellAbout_1 (by decide) (by decide) rfl (by decide) (tgt := 135) ?_
              refine lv_aload_n hx hb dX8_tellAbout_135 rfl (lv_at hl 0 rfl) ?_
              refine x_get hx hb hts hown hK hW (hI.2 0 0 (by decide)) up_io (hI.1 0 0 _) rfl inX8 0 (by decide) t_284 rfl dX8_tellAbout_136 ?_
              obtain ⟨r17, hc16, hf⟩ := bd_some hf
              have hC18 := f0_keysThere_ok l D cy ad ns M t hI S r17 hc16
              refine x_vi (n := 0) (As := []) (rest := []) hx hb hml hts hown hK hW hA hC18 (hI.2 1 0 (by decide)) up_io (hI.1 1 0 _) rfl rfl t_547 t_548 t_549 t_12 t_550 rfl (by decide +kernel) rfl rfl ⟨Nat.le_of_ble_eq_true rfl, Nat.le_of_ble_eq_true rfl⟩ hl.1 rfl (lv_room (Nat.le_of_ble_eq_true rfl)) dX8_tellAbout_139 ⟨(Nat.le_of_ble_eq_true rfl), (Nat.le_of_ble_eq_true rfl)⟩ (fun H locs hW => ?_)
              exact x_iret hx hb hr hlk hK hW (Option.some.inj hf) rfl dX8_tellAbout_142
            · replace hf := (if_neg c15).symm.trans hf
              by_cases c19 : a1 = 6
              · replace hf := (if_pos c19).symm.trans hf
                refine x_tab (v := 6) c19 hx hb dX8_tellAbout_1 (by decide) (by decide) rfl (by decide) (tgt := 143) ?_
                refine lv_aload_n hx hb dX8_tellAbout_143 rfl (lv_at hl 0 rfl) ?_
                refine x_get hx hb hts hown hK hW (hI.2 0 0 (by decide)) up_io (hI.1 0 0 _) rfl inX8 0 (by decide) t_284 rfl dX8_tellAbout_144 ?_
                refine x_get hx hb hts hown hK hW (hI.2 1 0 (by decide)) up_io (hI.1 1 0 _) rfl inX0 0 (by decide) t_260 rfl dX8_tellAbout_147 ?_
                refine x_get hx hb hts hown hK hW (hI.2 2 0 (by decide)) up_io (hI.1 2 0 _) rfl inX7 9 (by decide) t_233 rfl dX8_tellAbout_150 ?_
                exact x_iret hx hb hr hlk hK hW (Option.some.inj hf) rfl dX8_tellAbout_153
              · replace hf := (if_neg c19).symm.trans hf
                by_cases c20 : a1 = 7
                · replace hf := (if_pos c20).symm.trans hf
                  refine x_tab (v := 7) c20 hx hb dX8_tellAbout_1 (by decide) (by decide) rfl (by decide) (tgt := 154) ?_
                  refine lv_aload_n hx hb dX8_tellAbout_154 rfl (lv_at hl 0 rfl) ?_
                  refine x_get hx hb hts hown hK hW (hI.2 0 0 (by decide)) up_io (hI.1 0 0 _) rfl inX8 0 (by decide) t_284 rfl dX8_tellAbout_155 ?_
                  refine x_get hx hb hts hown hK hW (hI.2 1 0 (by decide)) up_io (hI.1 1 0 _) rfl inX0 0 (by decide) t_260 rfl dX8_tellAbout_158 ?_
                  refine x_get hx hb hts hown hK hW (hI.2 2 0 (by decide)) up_io (hI.1 2 0 _) rfl inX7 10 (by decide) t_235 rfl dX8_tellAbout_161 ?_
                  exact x_iret hx hb hr hlk hK hW (Option.some.inj hf) rfl dX8_tellAbout_164
                · replace hf := (if_neg c20).symm.trans hf
                  by_cases c21 : a1 = 8
                  · replace hf := (if_pos c21).symm.trans hf
                    refine x_tab (v := 8) c21 hx hb dX8_tellAbout_1 (by decide) (by decide) rfl (by decide) (tgt := 165) ?_
                    refine lv_aload_n hx hb dX8_tellAbout_165 rfl (lv_at hl 0 rfl) ?_
                    refine x_get hx hb hts hown hK hW (hI.2 0 0 (by decide)) up_io (hI.1 0 0 _) rfl inX8 3 (by decide) t_289 rfl dX8_tellAbout_166 ?_
                    exact x_iret hx hb hr hlk hK hW (Option.some.inj hf) rfl dX8_tellAbout_169
                  · replace hf := (if_neg c21).symm.trans hf
                    by_cases c22 : a1 = 9
                    · replace hf := (if_pos c22).symm.trans hf
                      refine x_tab (v := 9) c22 hx hb dX8_tellAbout_1 (by decide) (by decide) rfl (by decide) (tgt := 170) ?_
                      refine lv_aload_n hx hb dX8_tellAbout_170 rfl (lv_at hl 0 rfl) ?_
                      refine x_get hx hb hts hown hK hW (hI.2 0 0 (by decide)) up_io (hI.1 0 0 _) rfl inX8 4 (by decide) t_291 rfl dX8_tellAbout_171 ?_
                      exact x_iret hx hb hr hlk hK hW (Option.some.inj hf) rfl dX8_tellAbout_174
                    · replace hf := (if_neg c22).symm.trans hf
                      by_cases c23 : a1 = 10
                      · replace hf := (if_pos c23).symm.trans hf
                        refine x_tab (v := 10) c23 hx hb dX8_tellAbout_1 (by decide) (by decide) rfl (by decide) (tgt := 175) ?_
                        refine lv_aload_n hx hb dX8_tellAbout_175 rfl (lv_at hl 0 rfl) ?_
                        refine x_get hx hb hts hown hK hW (hI.2 0 0 (by decide)) up_io (hI.1 0 0 _) rfl inX8 0 (by decide) t_284 rfl dX8_tellAbout_176 ?_
                        refine x_get hx hb hts hown hK hW (hI.2 1 0 (by decide)) up_io (hI.1 1 0 _) rfl inX0 5 (by decide) t_270 rfl dX8_tellAbout_179 ?_
                        exact x_iret hx hb hr hlk hK hW (Option.some.inj hf) rfl dX8_tellAbout_182
                      · replace hf := (if_neg c23).symm.trans hf
                        by_cases c24 : a1 = 11
                        · replace hf := (if_pos c24).symm.trans hf
                          refine x_tab (v := 11) c24 hx hb dX8_tellAbout_1 (by decide) (by decide) rfl (by decide) (tgt := 183) ?_
                          refine lv_aload_n hx hb dX8_tellAbout_183 rfl (lv_at hl 0 rfl) ?_
                          refine x_get hx hb hts hown hK hW (hI.2 0 0 (by decide)) up_io (hI.1 0 0 _) rfl inX8 2 (by decide) t_288 rfl dX8_tellAbout_184 ?_
                          refine x_get hx hb hts hown hK hW (hI.2 5 0 (by decide)) up_io (hI.1 5 0 _) rfl inX1 2 (by decide) t_184 rfl dX8_tellAbout_187 ?_
                          exact x_iret hx hb hr hlk hK hW (Option.some.inj hf) rfl dX8_tellAbout_190
                        · replace hf := (if_neg c24).symm.trans hf
                          by_cases c25 : a1 = 12
                          · replace hf := (if_pos c25).symm.trans hf
                            refine x_tab (v := 12) c25 hx hb dX8_tellAbout_1 (by decide) (by decide) rfl (by decide) (tgt := 191) ?_
                            refine lv_aload_n hx hb dX8_tellAbout_191 rfl (lv_at hl 0 rfl) ?_
                            refine x_get hx hb hts hown hK hW (hI.2 0 0 (by decide)) up_io (hI.1 0 0 _) rfl inX8 2 (by decide) t_288 rfl dX8_tellAbout_192 ?_
                            refine x_get hx hb hts hown hK hW (hI.2 5 0 (by decide)) up_io (hI.1 5 0 _) rfl inX1 3 (by decide) t_186 rfl dX8_tellAbout_195 ?_
                            exact x_iret hx hb hr hlk hK hW (Option.some.inj hf) rfl dX8_tellAbout_198
                          · replace hf := (if_neg c25).symm.trans hf
                            by_cases c26 : a1 = 13
                            · replace hf := (if_pos c26).symm.trans hf
                              refine x_tab (v := 13) c26 hx hb dX8_tellAbout_1 (by decide) (by decide) rfl (by decide) (tgt := 199) ?_
                              refine lv_aload_n hx hb dX8_tellAbout_199 rfl (lv_at hl 0 rfl) ?_
                              refine x_get hx hb hts hown hK hW (hI.2 0 0 (by decide)) up_io (hI.1 0 0 _) rfl inX8 2 (by decide) t_288 rfl dX8_tellAbout_200 ?_
                              refine x_get hx hb hts hown hK hW (hI.2 5 0 (by decide)) up_io (hI.1 5 0 _) rfl inX1 4 (by decide) t_188 rfl dX8_tellAbout_203 ?_
                              exact x_iret hx hb hr hlk hK hW (Option.some.inj hf) rfl dX8_tellAbout_206
                            · replace hf := (if_neg c26).symm.trans hf
                              by_cases c27 : a1 = 14
                              · replace hf := (if_pos c27).symm.trans hf
                                refine x_tab (v := 14) c27 hx hb dX8_tellAbout_1 (by decide) (by decide) rfl (by decide) (tgt := 207) ?_
                                refine lv_aload_n hx hb dX8_tellAbout_207 rfl (lv_at hl 0 rfl) ?_
                                refine x_get hx hb hts hown hK hW (hI.2 0 0 (by decide)) up_io (hI.1 0 0 _) rfl inX8 2 (by decide) t_288 rfl dX8_tellAbout_208 ?_
                                refine x_get hx hb hts hown hK hW (hI.2 5 0 (by decide)) up_io (hI.1 5 0 _) rfl inX1 5 (by decide) t_190 rfl dX8_tellAbout_211 ?_
                                exact x_iret hx hb hr hlk hK hW (Option.some.inj hf) rfl dX8_tellAbout_214
                              · replace hf := (if_neg c27).symm.trans hf
                                by_cases c28 : a1 = 15
                                · replace hf := (if_pos c28).symm.trans hf
                                  refine x_tab (v := 15) c28 hx hb dX8_tellAbout_1 (by decide) (by decide) rfl (by decide) (tgt := 215) ?_
                                  refine lv_aload_n hx hb dX8_tellAbout_215 rfl (lv_at hl 0 rfl) ?_
                                  refine x_get hx hb hts hown hK hW (hI.2 0 0 (by decide)) up_io (hI.1 0 0 _) rfl inX8 1 (by decide) t_286 rfl dX8_tellAbout_216 ?_
                                  refine x_get hx hb hts hown hK hW (hI.2 4 0 (by decide)) up_io (hI.1 4 0 _) rfl inX9 2 (by decide) t_166 rfl dX8_tellAbout_219 ?_
                                  exact x_iret hx hb hr hlk hK hW (Option.some.inj hf) rfl dX8_tellAbout_222
                                · replace hf := (if_neg c28).symm.trans hf
                                  refine lv_tableOut (tgt := 223) hx hb dX8_tellAbout_1 (by have := ne_toInt (z := 0) (by decide) c1; have := ne_toInt (z := 1) (by decide) c2; have := ne_toInt (z := 2) (by decide) c6; have := ne_toInt (z := 3) (by decide) c9; have := ne_toInt (z := 4) (by decide) c12; have := ne_toInt (z := 5) (by decide) c15; have := ne_toInt (z := 6) (by decide) c19; have := ne_toInt (z := 7) (by decide) c20; have := ne_toInt (z := 8) (by decide) c21; have := ne_toInt (z := 9) (by decide) c22; have := ne_toInt (z := 10) (by decide) c23; have := ne_toInt (z := 11) (by decide) c24; have := ne_toInt (z := 12) (by decide) c25; have := ne_toInt (z := 13) (by decide) c26; have := ne_toInt (z := 14) (by decide) c27; have := ne_toInt (z := 15) (by decide) c28; omega) (by decide) ?_
                                  refine lv_bipush (v := -2) hx hb dX8_tellAbout_223 (by decide) ?_
                                  exact x_iret hx hb hr hlk hK hW (Option.some.inj hf) rfl dX8_tellAbout_225
def f8_visit_j132 (w1 : Int32) (w2 : Int32) (w3 : Int32) (S : Ob) : Option (Int32 × Ob) :=
  (if w3 = 0 then (rd 100 (S 3 4) w1 (fun v37 => (if v37 = (-1 : Int32) then (some ((0 : Int32), S)) else (some ((1 : Int32), S))))) else (some (((2 : Int32) + w2), S)))
def f8_visit_j93 (w1 : Int32) (w2 : Int32) (w3 : Int32) (S : Ob) : Option (Int32 × Ob) :=
  (b2 (f1_growthAfter w3 (S 5)) (fun r26 g24 => (st (va_up S 5 g24) (fun S25 => (if r26 = 0 then (f8_visit_j132 w1 w2 w3 S25) else ((f0_resize ((S25 1 0 4) + r26) S25).bind (fun S30 => ((f0_overflow S30).bind (fun S33 => (f8_visit_j132 w1 w2 w3 S33))))))))))
def f8_visit (a1 : Int32) (S : Ob) : Option (Int32 × Ob) :=
  (st (va_up S 0 (va_up (S 0) 0 (upd (S 0 0) 3 ((S 0 0 3) + (1 : Int32))))) (fun S1 => ((f9_note a1 (S1 4)).bind (fun g3 => (st (va_up S1 4 g3) (fun S4 => ((f7_put a1 (S4 2)).bind (fun g7 => (st (va_up S4 2 g7) (fun S8 => (rd 100 (S8 3 4) a1 (fun v11 => (if v11 = (-1 : Int32) then ((f0_bringIn a1 S8).bind (fun S14 => ((f0_overflow S14).bind (fun S17 => (f8_visit_j93 a1 v11 (0 : Int32) S17))))) else (st (va_up S8 0 (va_up (S8 0) 0 (upd (S8 0 0) 4 ((S8 0 0 4) + (1 : Int32))))) (fun S19 => ((f0_touch a1 S19).bind (fun S21 => (f8_visit_j93 a1 v11 (1 : Int32) S21))))))))))))))))))
set_option maxHeartbeats 4000000 in
set_option maxRecDepth 100000 in
theorem f8_visit_ok (l : Launch) (D : va_G) (cy : Nat → ClassId) (ad : Nat → Nat → Nat → Nat) (ns : List (Nat × Nat × Nat)) (M : Me) (t : Nat) (hI : IsSt cy ad ns t) (S : Ob) (a1 : Int32) (r : Int32) (m2 : Ob)  (hf : f8_visit a1 S = some (r, m2)) : Ci l yX8_visit (.code yX8_visit cX8_visit 5 (some .int) :: tk_tb) { frames := 5, cells := 0, slots := 0, locals := 118 } D cy ad ns [.ref (ad t 0 0), .int a1] (va_up M t S) r (va_up M t m2) := by
  refine Ci.of (by decide) (Nat.le_of_ble_eq_true rfl) ?_
  intro p e s m below meth c ls hE hW hl
  obtain ⟨hx, hb, hr, hml, hown, hts, hlk, hK⟩ := hE
  have hA : ∀ q : Nat, s.heap.size ≤ q → Aw ad ns s.heap.size q := fun q h => Or.inr h
  have hl : lv_has ls 5 [(0, .ref (ad t 0 0)), (1, .int a1)] := hl
  unfold f8_visit at hf
  have J132 : ∀ (w1 : Int32) (w2 : Int32) (w3 : Int32) (S : Ob) (H : Heap) (locs : List Loc) (ls : Array Slot), f8_visit_j132 w1 w2 w3 S = some (r, m2) → Wl D cy ad ns (Aw ad ns s.heap.size) s.heap (va_up M t S) H locs → lv_has ls 5 [(0, .ref (ad t 0 0)), (1, .int w1), (2, .int w2), (3, .int w3)] → W p l e { frames := 5, cells := 0, slots := 0, locals := 118 } s m ([.ref (ad t 0 0), .int a1] : List Value).toArray below meth c H locs 0 0 (QI below D cy ad ns [.ref (ad t 0 0), .int a1] s r (va_up M t m2)) (F0 m 132 ls []) := by
    intro w1 w2 w3 S H locs ls hf hW hl
    unfold f8_visit_j132 at hf
    refine lv_iload_n hx hb dX8_visit_132 rfl (lv_at hl 3 rfl) ?_
    refine lv_if_eq (tgt := 140) hx hb dX8_visit_133 (by decide) (fun c35 => ?_) (fun c35 => ?_)
    · replace hf := (if_pos c35).symm.trans hf
      refine lv_aload_n hx hb dX8_visit_140 rfl (lv_at hl 0 rfl) ?_
      refine x_get hx hb hts hown hK hW (hI.2 0 0 (by decide)) up_io (hI.1 0 0 _) rfl inX8 0 (by decide) t_284 rfl dX8_visit_141 ?_
      refine x_get hx hb hts hown hK hW (hI.2 1 0 (by decide)) up_io (hI.1 1 0 _) rfl inX0 1 (by decide) t_263 rfl dX8_visit_144 ?_
      refine x_get hx hb hts hown hK hW (hI.2 3 0 (by decide)) up_io (hI.1 3 0 _) rfl inX5 3 (by decide) t_104 rfl dX8_visit_147 ?_
      refine lv_iload_n hx hb dX8_visit_150 rfl (lv_at hl 1 rfl) ?_
      obtain ⟨hi36, hf⟩ := rd_some hf
      refine x_iald hx hb hK hW (hI.2 3 4 (by decide)) up_io (hI.1 3 4 _) hi36 dX8_visit_151 ?_
      generalize S 3 4 (w1).toNatClampNeg = v37 at hf ⊢
      refine lv_iconst (v := -1) hx hb dX8_visit_152 (by decide) ?_
      refine lv_icmp_ne (tgt := 160) hx hb dX8_visit_153 (by decide) (fun c38 => ?_) (fun c38 => ?_)
      · replace hf := (if_neg c38).symm.trans hf
        refine lv_iconst (v := 1) hx hb dX8_visit_160 (by decide) ?_
        exact x_iret hx hb hr hlk hK hW (congrArg Prod.fst (Option.some.inj hf)) (congrArg (fun q => (va_up M t (Prod.snd q))) (Option.some.inj hf)) dX8_visit_161
      · replace hf := (if_pos c38).symm.trans hf
        refine lv_iconst (v := 0) hx hb dX8_visit_156 (by decide) ?_
        refine lv_goto (tgt := 161) hx hb dX8_visit_157 (by decide) ?_
        exact x_iret hx hb hr hlk hK hW (congrArg Prod.fst (Option.some.inj hf)) (congrArg (fun q => (va_up M t (Prod.snd q))) (Option.some.inj hf)) dX8_visit_161
    · replace hf := (if_neg c35).symm.trans hf
      refine lv_iconst (v := 2) hx hb dX8_visit_136 (by decide) ?_
      refine lv_iload_n hx hb dX8_visit_137 rfl (lv_at hl 2 rfl) ?_
      refine lv_iadd hx hb dX8_visit_138 ?_
      exact x_iret hx hb hr hlk hK hW (congrArg Prod.fst (Option.some.inj hf)) (congrArg (fun q => (va_up M t (Prod.snd q))) (Option.some.inj hf)) dX8_visit_139
  have J93 : ∀ (w1 : Int32) (w2 : Int32) (w3 : Int32) (S : Ob) (H : Heap) (locs : List Loc) (ls : Array Slot), f8_visit_j93 w1 w2 w3 S = some (r, m2) → Wl D cy ad ns (Aw ad ns s.heap.size) s.heap (va_up M t S) H locs → lv_has ls 5 [(0, .ref (ad t 0 0)), (1, .int w1), (2, .int w2), (3, .int w3)] → W p l e { frames := 5, cells := 0, slots := 0, locals := 118 } s m ([.ref (ad t 0 0), .int a1] : List Value).toArray below meth c H locs 0 0 (QI below D cy ad ns [.ref (ad t 0 0), .int a1] s r (va_up M t m2)) (F0 m 93 ls []) := by
    intro w1 w2 w3 S H locs ls hf hW hl
    unfold f8_visit_j93 at hf
    refine lv_aload_n hx hb dX8_visit_93 rfl (lv_at hl 0 rfl) ?_
    refine x_get hx hb hts hown hK hW (hI.2 0 0 (by decide)) up_io (hI.1 0 0 _) rfl inX8 2 (by decide) t_288 rfl dX8_visit_94 ?_
    refine lv_iload_n hx hb dX8_visit_97 rfl (lv_at hl 3 rfl) ?_
    obtain ⟨r26, g24, hc23, hf⟩ := b2_some hf
    replace hf := st_some hf
    have hC27 := f1_growthAfter_ok l D cy ad ns (va_up M t S) t 5 (hI.at_5) (S 5) w3 r26 g24 hc23
    rw [uI_gid, uI_grp] at hC27
    refine x_vi (n := 1) (As := [.int w3]) (rest := []) hx hb hml hts hown hK hW hA hC27 (hI.2 5 0 (by decide)) up_io (hI.1 5 0 _) rfl rfl t_493 t_494 t_495 t_11 t_496 rfl (by decide +kernel) rfl rfl ⟨Nat.le_of_ble_eq_true rfl, Nat.le_of_ble_eq_true rfl⟩ hl.1 rfl (lv_room (Nat.le_of_ble_eq_true rfl)) dX8_visit_98 ⟨(Nat.le_of_ble_eq_true rfl), (Nat.le_of_ble_eq_true rfl)⟩ (fun H locs hW => ?_)
    generalize (va_up S 5 g24) = S25 at hf hW
    refine lv_istore (lv' := [(4, .int r26), (0, .ref (ad t 0 0)), (1, .int w1), (2, .int w2), (3, .int w3)]) hx hb dX8_visit_101 hl (by decide) rfl (fun ls hl => ?_)
    refine lv_iload hx hb dX8_visit_103 (lv_at hl 0 rfl) ?_
    refine lv_if_eq (tgt := 132) hx hb dX8_visit_105 (by decide) (fun c28 => ?_) (fun c28 => ?_)
    · replace hf := (if_pos c28).symm.trans hf
      exact J132 _ _ _ _ _ _ _ hf hW (lv_sub hl [1, 2, 3, 4] rfl)
    · replace hf := (if_neg c28).symm.trans hf
      refine lv_aload_n hx hb dX8_visit_108 rfl (lv_at hl 1 rfl) ?_
      refine x_get hx hb hts hown hK hW (hI.2 0 0 (by decide)) up_io (hI.1 0 0 _) rfl inX8 0 (by decide) t_284 rfl dX8_visit_109 ?_
      refine lv_aload_n hx hb dX8_visit_112 rfl (lv_at hl 1 rfl) ?_
      refine x_get hx hb hts hown hK hW (hI.2 0 0 (by decide)) up_io (hI.1 0 0 _) rfl inX8 0 (by decide) t_284 rfl dX8_visit_113 ?_
      refine x_get hx hb hts hown hK hW (hI.2 1 0 (by decide)) up_io (hI.1 1 0 _) rfl inX0 4 (by decide) t_268 rfl dX8_visit_116 ?_
      refine lv_iload hx hb dX8_visit_119 (lv_at hl 0 rfl) ?_
      refine lv_iadd hx hb dX8_visit_121 ?_
      obtain ⟨S30, hc29, hf⟩ := bd_some hf
      have hC31 := f0_resize_ok l D cy ad ns M t hI S25 ((S25 1 0 4) + r26) S30 hc29
      refine x_vv (n := 1) (As := [.int ((S25 1 0 4) + r26)]) (rest := []) hx hb hml hts hown hK hW hA hC31 (hI.2 1 0 (by decide)) up_io (hI.1 1 0 _) rfl rfl t_497 t_498 t_499 t_12 t_500 rfl (by decide +kernel) rfl rfl ⟨Nat.le_of_ble_eq_true rfl, Nat.le_of_ble_eq_true rfl⟩ hl.1 rfl (lv_room (Nat.le_of_ble_eq_true rfl)) dX8_visit_122 ⟨(Nat.le_of_ble_eq_true rfl), (Nat.le_of_ble_eq_true rfl)⟩ (fun H locs hW => ?_)
      refine lv_aload_n hx hb dX8_visit_125 rfl (lv_at hl 1 rfl) ?_
      refine x_get hx hb hts hown hK hW (hI.2 0 0 (by decide)) up_io (hI.1 0 0 _) rfl inX8 0 (by decide) t_284 rfl dX8_visit_126 ?_
      obtain ⟨S33, hc32, hf⟩ := bd_some hf
      have hC34 := f0_overflow_ok l D cy ad ns M t hI S30 S33 hc32
      refine x_vv (n := 0) (As := []) (rest := []) hx hb hml hts hown hK hW hA hC34 (hI.2 1 0 (by decide)) up_io (hI.1 1 0 _) rfl rfl t_489 t_490 t_491 t_12 t_492 rfl (by decide +kernel) rfl rfl ⟨Nat.le_of_ble_eq_true rfl, Nat.le_of_ble_eq_true rfl⟩ hl.1 rfl (lv_room (Nat.le_of_ble_eq_true rfl)) dX8_visit_129 ⟨(Nat.le_of_ble_eq_true rfl), (Nat.le_of_ble_eq_true rfl)⟩ (fun H locs hW => ?_)
      exact J132 _ _ _ _ _ _ _ hf hW (lv_sub hl [1, 2, 3, 4] rfl)
  refine lv_aload_n hx hb dX8_visit_0 rfl (lv_at hl 0 rfl) ?_
  refine lv_dup hx hb dX8_visit_1 rfl ?_
  refine x_get hx hb hts hown hK hW (hI.2 0 0 (by decide)) up_io (hI.1 0 0 _) rfl inX8 3 (by decide) t_289 rfl dX8_visit_2 ?_
  refine lv_iconst (v := 1) hx hb dX8_visit_5 (by decide) ?_
  refine lv_iadd hx hb dX8_visit_6 ?_
  replace hf := st_some hf
  refine x_put hx hb hts hown hK hW (hI.2 0 0 (by decide)) up_io (hI.1 0 0 _) rfl inX8 tyX8 tyX8_ok nmX8 3 (by decide) t_289 rfl rfl (Nat.le_of_ble_eq_true rfl) (hI.1 0 0 _) uC_grp dX8_visit_7 (fun H locs hW => ?_)
  generalize (va_up S 0 (va_up (S 0) 0 (upd (S 0 0) 3 ((S 0 0 3) + (1 : Int32))))) = S1 at hf hW
  refine lv_aload_n hx hb dX8_visit_10 rfl (lv_at hl 0 rfl) ?_
  refine x_get hx hb hts hown hK hW (hI.2 0 0 (by decide)) up_io (hI.1 0 0 _) rfl inX8 1 (by decide) t_286 rfl dX8_visit_11 ?_
  refine lv_iload_n hx hb dX8_visit_14 rfl (lv_at hl 1 rfl) ?_
  obtain ⟨g3, hc2, hf⟩ := bd_some hf
  replace hf := st_some hf
  have hC5 := f9_note_ok l D cy ad ns (va_up M t S1) t 4 (hI.at_4) (S1 4) a1 g3 hc2
  rw [uI_gid, uI_grp] at hC5
  refine x_vv (n := 1) (As := [.int a1]) (rest := []) hx hb hml hts hown hK hW hA hC5 (hI.2 4 0 (by decide)) up_io (hI.1 4 0 _) rfl rfl t_398 t_399 t_400 t_10 t_401 rfl (by decide +kernel) rfl rfl ⟨Nat.le_of_ble_eq_true rfl, Nat.le_of_ble_eq_true rfl⟩ hl.1 rfl (lv_room (Nat.le_of_ble_eq_true rfl)) dX8_visit_15 ⟨(Nat.le_of_ble_eq_true rfl), (Nat.le_of_ble_eq_true rfl)⟩ (fun H locs hW => ?_)
  generalize (va_up S1 4 g3) = S4 at hf hW
  refine lv_aload_n hx hb dX8_visit_18 rfl (lv_at hl 0 rfl) ?_
  refine x_get hx hb hts hown hK hW (hI.2 0 0 (by decide)) up_io (hI.1 0 0 _) rfl inX8 0 (by decide) t_284 rfl dX8_visit_19 ?_
  refine x_get hx hb hts hown hK hW (hI.2 1 0 (by decide)) up_io (hI.1 1 0 _) rfl inX0 0 (by decide) t_260 rfl dX8_visit_22 ?_
  refine lv_iload_n hx hb dX8_visit_25 rfl (lv_at hl 1 rfl) ?_
  obtain ⟨g7, hc6, hf⟩ := bd_some hf
  replace hf := st_some hf
  have hC9 := f7_put_ok l D cy ad ns (va_up M t S4) t 2 (hI.at_2) (S4 2) a1 g7 hc6
  rw [uI_gid, uI_grp] at hC9
  refine x_vv (n := 1) (As := [.int a1]) (rest := []) hx hb hml hts hown hK hW hA hC9 (hI.2 2 0 (by decide)) up_io (hI.1 2 0 _) rfl rfl t_402 t_403 t_404 t_13 t_405 rfl (by decide +kernel) rfl rfl ⟨Nat.le_of_ble_eq_true rfl, Nat.le_of_ble_eq_true rfl⟩ hl.1 rfl (lv_room (Nat.le_of_ble_eq_true rfl)) dX8_visit_26 ⟨(Nat.le_of_ble_eq_true rfl), (Nat.le_of_ble_eq_true rfl)⟩ (fun H locs hW => ?_)
  generalize (va_up S4 2 g7) = S8 at hf hW
  refine lv_aload_n hx hb dX8_visit_29 rfl (lv_at hl 0 rfl) ?_
  refine x_get hx hb hts hown hK hW (hI.2 0 0 (by decide)) up_io (hI.1 0 0 _) rfl inX8 0 (by decide) t_284 rfl dX8_visit_30 ?_
  refine x_get hx hb hts hown hK hW (hI.2 1 0 (by decide)) up_io (hI.1 1 0 _) rfl inX0 1 (by decide) t_263 rfl dX8_visit_33 ?_
  refine x_get hx hb hts hown hK hW (hI.2 3 0 (by decide)) up_io (hI.1 3 0 _) rfl inX5 3 (by decide) t_104 rfl dX8_visit_36 ?_
  refine lv_iload_n hx hb dX8_visit_39 rfl (lv_at hl 1 rfl) ?_
  obtain ⟨hi10, hf⟩ := rd_some hf
  refine x_iald hx hb hK hW (hI.2 3 4 (by decide)) up_io (hI.1 3 4 _) hi10 dX8_visit_40 ?_
  generalize S8 3 4 (a1).toNatClampNeg = v11 at hf ⊢
  refine lv_istore_n (lv' := [(2, .int v11), (0, .ref (ad t 0 0)), (1, .int a1)]) hx hb dX8_visit_41 rfl hl (by decide) rfl (fun ls hl => ?_)
  refine lv_iload_n hx hb dX8_visit_42 rfl (lv_at hl 0 rfl) ?_
  refine lv_iconst (v := -1) hx hb dX8_visit_43 (by decide) ?_
  refine lv_icmp_eq (tgt := 51) hx hb dX8_visit_44 (by decide) (fun c12 => ?_) (fun c12 => ?_)
  · replace hf := (if_pos c12).symm.trans hf
    refine lv_iconst (v := 0) hx hb dX8_visit_51 (by decide) ?_
    refine lv_istore_n (lv' := [(3, .int (0 : Int32)), (2, .int v11), (0, .ref (ad t 0 0)), (1, .int a1)]) hx hb dX8_visit_52 rfl hl (by decide) rfl (fun ls hl => ?_)
    refine lv_iload_n hx hb dX8_visit_53 rfl (lv_at hl 0 rfl) ?_
    refine lv_if_eq (tgt := 78) hx hb dX8_visit_54 (by decide) (fun _ => ?_) (fun c9 => absurd (by decide) c9)
    refine lv_aload_n hx hb dX8_visit_78 rfl (lv_at hl 2 rfl) ?_
    refine x_get hx hb hts hown hK hW (hI.2 0 0 (by decide)) up_io (hI.1 0 0 _) rfl inX8 0 (by decide) t_284 rfl dX8_visit_79 ?_
    refine lv_iload_n hx hb dX8_visit_82 rfl (lv_at hl 3 rfl) ?_
    obtain ⟨S14, hc13, hf⟩ := bd_some hf
    have hC15 := f0_bringIn_ok l D cy ad ns M t hI S8 a1 S14 hc13
    refine x_vv (n := 1) (As := [.int a1]) (rest := []) hx hb hml hts hown hK hW hA hC15 (hI.2 1 0 (by decide)) up_io (hI.1 1 0 _) rfl rfl t_446 t_447 t_448 t_12 t_449 rfl (by decide +kernel) rfl rfl ⟨Nat.le_of_ble_eq_true rfl, Nat.le_of_ble_eq_true rfl⟩ hl.1 rfl (lv_room (Nat.le_of_ble_eq_true rfl)) dX8_visit_83 ⟨(Nat.le_of_ble_eq_true rfl), (Nat.le_of_ble_eq_true rfl)⟩ (fun H locs hW => ?_)
    refine lv_aload_n hx hb dX8_visit_86 rfl (lv_at hl 2 rfl) ?_
    refine x_get hx hb hts hown hK hW (hI.2 0 0 (by decide)) up_io (hI.1 0 0 _) rfl inX8 0 (by decide) t_284 rfl dX8_visit_87 ?_
    obtain ⟨S17, hc16, hf⟩ := bd_some hf
    have hC18 := f0_overflow_ok l D cy ad ns M t hI S14 S17 hc16
    refine x_vv (n := 0) (As := []) (rest := []) hx hb hml hts hown hK hW hA hC18 (hI.2 1 0 (by decide)) up_io (hI.1 1 0 _) rfl rfl t_489 t_490 t_491 t_12 t_492 rfl (by decide +kernel) rfl rfl ⟨Nat.le_of_ble_eq_true rfl, Nat.le_of_ble_eq_true rfl⟩ hl.1 rfl (lv_room (Nat.le_of_ble_eq_true rfl)) dX8_visit_90 ⟨(Nat.le_of_ble_eq_true rfl), (Nat.le_of_ble_eq_true rfl)⟩ (fun H locs hW => ?_)
    exact J93 _ _ _ _ _ _ _ hf hW (lv_sub hl [2, 3, 1, 0] rfl)
  · replace hf := (if_neg c12).symm.trans hf
    refine lv_iconst (v := 1) hx hb dX8_visit_47 (by decide) ?_
    refine lv_goto (tgt := 52) hx hb dX8_visit_48 (by decide) ?_
    refine lv_istore_n (lv' := [(3, .int (1 : Int32)), (2, .int v11), (0, .ref (ad t 0 0)), (1, .int a1)]) hx hb dX8_visit_52 rfl hl (by decide) rfl (fun ls hl => ?_)
    refine lv_iload_n hx hb dX8_visit_53 rfl (lv_at hl 0 rfl) ?_
    refine lv_if_eq (tgt := 78) hx hb dX8_visit_54 (by decide) (fun c9 => absurd c9 (by decide)) (fun _ => ?_)
    refine lv_aload_n hx hb dX8_visit_57 rfl (lv_at hl 2 rfl) ?_
    refine lv_dup hx hb dX8_visit_58 rfl ?_
    refine x_get hx hb hts hown hK hW (hI.2 0 0 (by decide)) up_io (hI.1 0 0 _) rfl inX8 4 (by decide) t_291 rfl dX8_visit_59 ?_
    refine lv_iconst (v := 1) hx hb dX8_visit_62 (by decide) ?_
    refine lv_iadd hx hb dX8_visit_63 ?_
    replace hf := st_some hf
    refine x_put hx hb hts hown hK hW (hI.2 0 0 (by decide)) up_io (hI.1 0 0 _) rfl inX8 tyX8 tyX8_ok nmX8 4 (by decide) t_291 rfl rfl (Nat.le_of_ble_eq_true rfl) (hI.1 0 0 _) uC_grp dX8_visit_64 (fun H locs hW => ?_)
    generalize (va_up S8 0 (va_up (S8 0) 0 (upd (S8 0 0) 4 ((S8 0 0 4) + (1 : Int32))))) = S19 at hf hW
    refine lv_aload_n hx hb dX8_visit_67 rfl (lv_at hl 2 rfl) ?_
    refine x_get hx hb hts hown hK hW (hI.2 0 0 (by decide)) up_io (hI.1 0 0 _) rfl inX8 0 (by decide) t_284 rfl dX8_visit_68 ?_
    refine lv_iload_n hx hb dX8_visit_71 rfl (lv_at hl 3 rfl) ?_
    obtain ⟨S21, hc20, hf⟩ := bd_some hf
    have hC22 := f0_touch_ok l D cy ad ns M t hI S19 a1 S21 hc20
    refine x_vv (n := 1) (As := [.int a1]) (rest := []) hx hb hml hts hown hK hW hA hC22 (hI.2 1 0 (by decide)) up_io (hI.1 1 0 _) rfl rfl t_422 t_423 t_424 t_12 t_425 rfl (by decide +kernel) rfl rfl ⟨Nat.le_of_ble_eq_true rfl, Nat.le_of_ble_eq_true rfl⟩ hl.1 rfl (lv_room (Nat.le_of_ble_eq_true rfl)) dX8_visit_72 ⟨(Nat.le_of_ble_eq_true rfl), (Nat.le_of_ble_eq_true rfl)⟩ (fun H locs hW => ?_)
    refine lv_goto (tgt := 93) hx hb dX8_visit_75 (by decide) ?_
    exact J93 _ _ _ _ _ _ _ hf hW (lv_sub hl [2, 3, 1, 0] rfl)
