def f10_replay (a1 : Int32) (a2 : Int32) (a3 : Int32) (a4 : Int32) (M : Me) : Option (Int32 × Me) :=
  (if a1 < 0 then (some ((-2 : Int32), M)) else (if (6 : Int32) ≤ a1 then (some ((-2 : Int32), M)) else (if a2 < (1 : Int32) then (some ((-2 : Int32), M)) else (if a2 ≤ (30 : Int32) then (if a3 < 0 then (some ((-2 : Int32), M)) else (if a4 < a3 then (some ((-2 : Int32), M)) else (if a4 ≤ (M 0 4 0 2) then (if (a1).toNatClampNeg < 5 then (b2 (f3_playS ((a1).toNatClampNeg) (M 0 4) a1 a2 a3 a4 (M 5)) (fun r11 S9 => (st (va_up M 5 S9) (fun M10 => (some (r11, M10)))))) else (ck 6 a1 (b2 (f3_playF (M 0 4) a1 a2 a3 a4 (M 5)) (fun r16 S14 => (st (va_up M 5 S14) (fun M15 => (some (r16, M15)))))))) else (some ((-2 : Int32), M))))) else (some ((-2 : Int32), M))))))
set_option maxHeartbeats 4000000 in
set_option maxRecDepth 100000 in
theorem f10_replay_ok (l : Launch) (D : va_G) (cy : Nat → ClassId) (ad : Nat → Nat → Nat → Nat) (ns : List (Nat × Nat × Nat)) (hI0 : IsSt cy ad ns 0) (hI5 : IsPl cy ad ns 5) (hI6 : IsMain cy ad ns 6 0) (M : Me) (a1 : Int32) (a2 : Int32) (a3 : Int32) (a4 : Int32) (r : Int32) (m2 : Me)  (hf : f10_replay a1 a2 a3 a4 M = some (r, m2)) : CxI l yX10_replay (.code yX10_replay cX10_replay 5 (some .int) :: tk_tb) { frames := 6, cells := 0, slots := 0, locals := 147 } D cy ad ns [.ref (ad 6 0 0), .int a1, .int a2, .int a3, .int a4] M r m2 := by
  refine CxI.of (by decide) (Nat.le_of_ble_eq_true rfl) ?_
  intro p e s m below meth c ls hE hX hW hl
  obtain ⟨hx, hb, hr, hml, hown, hts, hlk, hK⟩ := hE
  have hA : ∀ q : Nat, s.heap.size ≤ q → Aw ad ns s.heap.size q := fun q h => Or.inr h
  have hl : lv_has ls 5 [(0, .ref (ad 6 0 0)), (1, .int a1), (2, .int a2), (3, .int a3), (4, .int a4)] := hl
  unfold f10_replay at hf
  refine lv_iload_n hx hb dX10_replay_0 rfl (lv_at hl 1 rfl) ?_
  refine lv_if_lt (tgt := 21) hx hb dX10_replay_1 (by decide) (fun c1 => ?_) (fun c1 => ?_)
  · replace hf := (if_pos c1).symm.trans hf
    refine lv_bipush (v := -2) hx hb dX10_replay_21 (by decide) ?_
    exact x_iret hx hb hr hlk hK hW (congrArg Prod.fst (Option.some.inj hf)) (congrArg (fun q => (Prod.snd q)) (Option.some.inj hf)) dX10_replay_23
  · replace hf := (if_neg c1).symm.trans hf
    refine lv_iload_n hx hb dX10_replay_4 rfl (lv_at hl 1 rfl) ?_
    refine lv_bipush (v := 6) hx hb dX10_replay_5 (by decide) ?_
    refine lv_icmp_ge (tgt := 21) hx hb dX10_replay_7 (by decide) (fun c2 => ?_) (fun c2 => ?_)
    · replace hf := (if_pos c2).symm.trans hf
      refine lv_bipush (v := -2) hx hb dX10_replay_21 (by decide) ?_
      exact x_iret hx hb hr hlk hK hW (congrArg Prod.fst (Option.some.inj hf)) (congrArg (fun q => (Prod.snd q)) (Option.some.inj hf)) dX10_replay_23
    · replace hf := (if_neg c2).symm.trans hf
      refine lv_iload_n hx hb dX10_replay_10 rfl (lv_at hl 2 rfl) ?_
      refine lv_iconst (v := 1) hx hb dX10_replay_11 (by decide) ?_
      refine lv_icmp_lt (tgt := 21) hx hb dX10_replay_12 (by decide) (fun c3 => ?_) (fun c3 => ?_)
      · replace hf := (if_pos c3).symm.trans hf
        refine lv_bipush (v := -2) hx hb dX10_replay_21 (by decide) ?_
        exact x_iret hx hb hr hlk hK hW (congrArg Prod.fst (Option.some.inj hf)) (congrArg (fun q => (Prod.snd q)) (Option.some.inj hf)) dX10_replay_23
      · replace hf := (if_neg c3).symm.trans hf
        refine lv_iload_n hx hb dX10_replay_15 rfl (lv_at hl 2 rfl) ?_
        refine lv_bipush (v := 30) hx hb dX10_replay_16 (by decide) ?_
        refine lv_icmp_le (tgt := 24) hx hb dX10_replay_18 (by decide) (fun c4 => ?_) (fun c4 => ?_)
        · replace hf := (if_pos c4).symm.trans hf
          refine lv_iload_n hx hb dX10_replay_24 rfl (lv_at hl 3 rfl) ?_
          refine lv_if_lt (tgt := 49) hx hb dX10_replay_25 (by decide) (fun c5 => ?_) (fun c5 => ?_)
          · replace hf := (if_pos c5).symm.trans hf
            refine lv_bipush (v := -2) hx hb dX10_replay_49 (by decide) ?_
            exact x_iret hx hb hr hlk hK hW (congrArg Prod.fst (Option.some.inj hf)) (congrArg (fun q => (Prod.snd q)) (Option.some.inj hf)) dX10_replay_51
          · replace hf := (if_neg c5).symm.trans hf
            refine lv_iload_n hx hb dX10_replay_28 rfl (lv_at hl 3 rfl) ?_
            refine lv_iload hx hb dX10_replay_29 (lv_at hl 4 rfl) ?_
            refine lv_icmp_gt (tgt := 49) hx hb dX10_replay_31 (by decide) (fun c6 => ?_) (fun c6 => ?_)
            · replace hf := (if_pos c6).symm.trans hf
              refine lv_bipush (v := -2) hx hb dX10_replay_49 (by decide) ?_
              exact x_iret hx hb hr hlk hK hW (congrArg Prod.fst (Option.some.inj hf)) (congrArg (fun q => (Prod.snd q)) (Option.some.inj hf)) dX10_replay_51
            · replace hf := (if_neg c6).symm.trans hf
              refine lv_iload hx hb dX10_replay_34 (lv_at hl 4 rfl) ?_
              refine lv_aload_n hx hb dX10_replay_36 rfl (lv_at hl 0 rfl) ?_
              refine x_get hx hb hts hown hK hW (hI6.2 0 (by decide)) rfl (hI6.1 0 _) rfl inX10 3 (by decide) t_306 rfl dX10_replay_37 ?_
              refine x_get hx hb hts hown hK hW (hI0.2 0 0 (by decide)) rfl (hI0.1 0 0 _) rfl inX8 1 (by decide) t_287 rfl dX10_replay_40 ?_
              refine x_get hx hb hts hown hK hW (hI0.2 4 0 (by decide)) rfl (hI0.1 4 0 _) rfl inX9 2 (by decide) t_167 rfl dX10_replay_43 ?_
              refine lv_icmp_le (tgt := 52) hx hb dX10_replay_46 (by decide) (fun c7 => ?_) (fun c7 => ?_)
              · replace hf := (if_pos c7).symm.trans hf
                refine lv_aload_n hx hb dX10_replay_52 rfl (lv_at hl 0 rfl) ?_
                refine x_get hx hb hts hown hK hW (hI6.2 0 (by decide)) rfl (hI6.1 0 _) rfl inX10 5 (by decide) t_308 rfl dX10_replay_53 ?_
                refine lv_iload_n hx hb dX10_replay_56 rfl (lv_at hl 1 rfl) ?_
                refine lv_iload_n hx hb dX10_replay_57 rfl (lv_at hl 2 rfl) ?_
                refine lv_aload_n hx hb dX10_replay_58 rfl (lv_at hl 0 rfl) ?_
                refine x_get hx hb hts hown hK hW (hI6.2 0 (by decide)) rfl (hI6.1 0 _) rfl inX10 3 (by decide) t_306 rfl dX10_replay_59 ?_
                refine x_get hx hb hts hown hK hW (hI0.2 0 0 (by decide)) rfl (hI0.1 0 0 _) rfl inX8 1 (by decide) t_287 rfl dX10_replay_62 ?_
                refine lv_iload_n hx hb dX10_replay_65 rfl (lv_at hl 3 rfl) ?_
                refine lv_iload hx hb dX10_replay_66 (lv_at hl 4 rfl) ?_
                by_cases hj : (a1).toNatClampNeg < 5
                · replace hf := (if_pos hj).symm.trans hf
                  obtain ⟨pi, hp⟩ : ∃ z, (a1).toNatClampNeg = z := ⟨_, rfl⟩
                  rw [hp] at hj hf
                  obtain ⟨r11, S9, hc8, hf⟩ := b2_some hf
                  replace hf := st_some hf
                  have hC12 := f3_playS_ok l D cy ad ns M 5 hI5 pi hj 0 (by decide) hI0.at_4 (M 0 4) rfl (M 5) a1 a2 a3 a4 r11 S9 hp hc8
                  rw [up_id] at hC12
                  refine x_vxi (n := 5) (As := [.int a1, .int a2, .ref (ad 0 4 0), .int a3, .int a4]) (rest := []) hx hb hml hts hown hK hX hW hA hC12 (hI5.2 0 0 (by decide)) rfl (hI5.1 0 0 _) rfl rfl t_563 t_564 t_565 t_2 t_566 rfl (by decide +kernel) rfl rfl ⟨Nat.le_of_ble_eq_true rfl, Nat.le_of_ble_eq_true rfl⟩ hl.1 rfl (lv_room (Nat.le_of_ble_eq_true rfl)) dX10_replay_68 ⟨(Nat.le_of_ble_eq_true rfl), (Nat.le_of_ble_eq_true rfl)⟩ (fun H locs hW => ?_)
                  generalize (va_up M 5 S9) = M10 at hf hW
                  exact x_iret hx hb hr hlk hK hW (congrArg Prod.fst (Option.some.inj hf)) (congrArg (fun q => (Prod.snd q)) (Option.some.inj hf)) dX10_replay_71
                · replace hf := (if_neg hj).symm.trans hf
                  obtain ⟨hi5, hf⟩ := ck_some hf
                  have hp : (a1).toNatClampNeg = 5 := by have := vp_lt hi5; omega
                  obtain ⟨r16, S14, hc13, hf⟩ := b2_some hf
                  replace hf := st_some hf
                  have hC17 := f3_playF_ok l D cy ad ns M 5 hI5 0 (by decide) hI0.at_4 (M 0 4) rfl (M 5) a1 a2 a3 a4 r16 S14 hp hc13
                  rw [up_id] at hC17
                  refine x_vxi (n := 5) (As := [.int a1, .int a2, .ref (ad 0 4 0), .int a3, .int a4]) (rest := []) hx hb hml hts hown hK hX hW hA hC17 (hI5.2 0 0 (by decide)) rfl (hI5.1 0 0 _) rfl rfl t_563 t_564 t_565 t_2 t_566 rfl (by decide +kernel) rfl rfl ⟨Nat.le_of_ble_eq_true rfl, Nat.le_of_ble_eq_true rfl⟩ hl.1 rfl (lv_room (Nat.le_of_ble_eq_true rfl)) dX10_replay_68 ⟨(Nat.le_of_ble_eq_true rfl), (Nat.le_of_ble_eq_true rfl)⟩ (fun H locs hW => ?_)
                  generalize (va_up M 5 S14) = M15 at hf hW
                  exact x_iret hx hb hr hlk hK hW (congrArg Prod.fst (Option.some.inj hf)) (congrArg (fun q => (Prod.snd q)) (Option.some.inj hf)) dX10_replay_71
              · replace hf := (if_neg c7).symm.trans hf
                refine lv_bipush (v := -2) hx hb dX10_replay_49 (by decide) ?_
                exact x_iret hx hb hr hlk hK hW (congrArg Prod.fst (Option.some.inj hf)) (congrArg (fun q => (Prod.snd q)) (Option.some.inj hf)) dX10_replay_51
        · replace hf := (if_neg c4).symm.trans hf
          refine lv_bipush (v := -2) hx hb dX10_replay_21 (by decide) ?_
          exact x_iret hx hb hr hlk hK hW (congrArg Prod.fst (Option.some.inj hf)) (congrArg (fun q => (Prod.snd q)) (Option.some.inj hf)) dX10_replay_23
