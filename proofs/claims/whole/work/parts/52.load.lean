def f10_load (a1 : Int32) (M : Me) : Option (Int32 × Me) :=
  (if a1 < 0 then (some ((-2 : Int32), M)) else (if a1 < (4 : Int32) then (ck 4 a1 (if (M 6 0 1 (a1).toNatClampNeg) = 1 then (ck 4 a1 ((f8_copyFrom (M ((a1).toNatClampNeg + 1)) (M 0)).bind (fun S6 => (st (va_up M 0 S6) (fun M7 => (some ((M7 0 0 0 3), M7))))))) else (some ((-1 : Int32), M)))) else (some ((-2 : Int32), M))))
set_option maxHeartbeats 4000000 in
set_option maxRecDepth 100000 in
theorem f10_load_ok (l : Launch) (D : va_G) (cy : Nat → ClassId) (ad : Nat → Nat → Nat → Nat) (ns : List (Nat × Nat × Nat)) (hI0 : IsSt cy ad ns 0) (hI5 : IsPl cy ad ns 5) (hI6 : IsMain cy ad ns 6 0) (M : Me) (a1 : Int32) (r : Int32) (m2 : Me)  (hSv : ∀ r, r < 4 → M 6 0 1 r = 1 → IsSt cy ad ns (r + 1)) (hf : f10_load a1 M = some (r, m2)) : Ci l yX10_load (.code yX10_load cX10_load 2 (some .int) :: tk_tb) { frames := 4, cells := 0, slots := 0, locals := 90 } D cy ad ns [.ref (ad 6 0 0), .int a1] M r m2 := by
  refine Ci.of (by decide) (Nat.le_of_ble_eq_true rfl) ?_
  intro p e s m below meth c ls hE hW hl
  obtain ⟨hx, hb, hr, hml, hown, hts, hlk, hK⟩ := hE
  have hA : ∀ q : Nat, s.heap.size ≤ q → Aw ad ns s.heap.size q := fun q h => Or.inr h
  have hl : lv_has ls 2 [(0, .ref (ad 6 0 0)), (1, .int a1)] := hl
  unfold f10_load at hf
  refine lv_iload_n hx hb dX10_load_0 rfl (lv_at hl 1 rfl) ?_
  refine lv_if_lt (tgt := 9) hx hb dX10_load_1 (by decide) (fun c1 => ?_) (fun c1 => ?_)
  · replace hf := (if_pos c1).symm.trans hf
    refine lv_bipush (v := -2) hx hb dX10_load_9 (by decide) ?_
    exact x_iret hx hb hr hlk hK hW (congrArg Prod.fst (Option.some.inj hf)) (congrArg (fun q => (Prod.snd q)) (Option.some.inj hf)) dX10_load_11
  · replace hf := (if_neg c1).symm.trans hf
    refine lv_iload_n hx hb dX10_load_4 rfl (lv_at hl 1 rfl) ?_
    refine lv_iconst (v := 4) hx hb dX10_load_5 (by decide) ?_
    refine lv_icmp_lt (tgt := 12) hx hb dX10_load_6 (by decide) (fun c2 => ?_) (fun c2 => ?_)
    · replace hf := (if_pos c2).symm.trans hf
      refine lv_aload_n hx hb dX10_load_12 rfl (lv_at hl 0 rfl) ?_
      refine x_get hx hb hts hown hK hW (hI6.2 0 (by decide)) rfl (hI6.1 0 _) rfl inX10 4 (by decide) t_307 rfl dX10_load_13 ?_
      refine lv_iload_n hx hb dX10_load_16 rfl (lv_at hl 1 rfl) ?_
      obtain ⟨hi3, hf⟩ := ck_some hf
      by_cases hk1 : (M 6 0 1 (a1).toNatClampNeg) = 1
      · replace hf := (if_pos hk1).symm.trans hf
        refine x_aals1 hx hb hK hI6 hW hi3 hk1 dX10_load_17 ?_
        refine lv_ifnonnull (tgt := 23) hx hb dX10_load_18 (by decide) ?_
        refine lv_aload_n hx hb dX10_load_23 rfl (lv_at hl 0 rfl) ?_
        refine x_get hx hb hts hown hK hW (hI6.2 0 (by decide)) rfl (hI6.1 0 _) rfl inX10 3 (by decide) t_306 rfl dX10_load_24 ?_
        refine lv_aload_n hx hb dX10_load_27 rfl (lv_at hl 0 rfl) ?_
        refine x_get hx hb hts hown hK hW (hI6.2 0 (by decide)) rfl (hI6.1 0 _) rfl inX10 4 (by decide) t_307 rfl dX10_load_28 ?_
        refine lv_iload_n hx hb dX10_load_31 rfl (lv_at hl 1 rfl) ?_
        obtain ⟨hi4, hf⟩ := ck_some hf
        refine x_aals1 hx hb hK hI6 hW hi4 hk1 dX10_load_32 ?_
        obtain ⟨S6, hc5, hf⟩ := bd_some hf
        replace hf := st_some hf
        have hC8 := f8_copyFrom_ok l D cy ad ns M 0 hI0 ((a1).toNatClampNeg + 1) (by omega) (hSv _ (vp_lt hi4) hk1) (M ((a1).toNatClampNeg + 1)) rfl (M 0) S6 hc5
        rw [up_id] at hC8
        refine x_vv (n := 1) (As := [.ref (ad ((a1).toNatClampNeg + 1) 0 0)]) (rest := []) hx hb hml hts hown hK hW hA hC8 (hI0.2 0 0 (by decide)) rfl (hI0.1 0 0 _) rfl rfl t_670 t_671 t_672 t_9 t_673 rfl (by decide +kernel) rfl rfl ⟨(Nat.le_of_ble_eq_true rfl), (Nat.le_of_ble_eq_true rfl)⟩ hl.1 rfl (lv_room (Nat.le_of_ble_eq_true rfl)) dX10_load_33 ⟨(Nat.le_of_ble_eq_true rfl), (Nat.le_of_ble_eq_true rfl)⟩ (fun H locs hW => ?_)
        generalize (va_up M 0 S6) = M7 at hf hW
        refine lv_aload_n hx hb dX10_load_36 rfl (lv_at hl 0 rfl) ?_
        refine x_get hx hb hts hown hK hW (hI6.2 0 (by decide)) rfl (hI6.1 0 _) rfl inX10 3 (by decide) t_306 rfl dX10_load_37 ?_
        refine x_get hx hb hts hown hK hW (hI0.2 0 0 (by decide)) rfl (hI0.1 0 0 _) rfl inX8 3 (by decide) t_290 rfl dX10_load_40 ?_
        exact x_iret hx hb hr hlk hK hW (congrArg Prod.fst (Option.some.inj hf)) (congrArg (fun q => (Prod.snd q)) (Option.some.inj hf)) dX10_load_43
      · replace hf := (if_neg hk1).symm.trans hf
        refine x_aals0 hx hb hK hI6 hW hi3 hk1 dX10_load_17 ?_
        refine lv_ifnonnullN hx hb dX10_load_18 ?_
        refine lv_iconst (v := -1) hx hb dX10_load_21 (by decide) ?_
        exact x_iret hx hb hr hlk hK hW (congrArg Prod.fst (Option.some.inj hf)) (congrArg (fun q => (Prod.snd q)) (Option.some.inj hf)) dX10_load_22
    · replace hf := (if_neg c2).symm.trans hf
      refine lv_bipush (v := -2) hx hb dX10_load_9 (by decide) ?_
      exact x_iret hx hb hr hlk hK hW (congrArg Prod.fst (Option.some.inj hf)) (congrArg (fun q => (Prod.snd q)) (Option.some.inj hf)) dX10_load_11
def f10_save (a1 : Int32) (M : Me) : Option (Int32 × Me) :=
  (if a1 < 0 then (some ((-2 : Int32), M)) else (if a1 < (4 : Int32) then (ck 4 a1 (if (M 6 0 1 (a1).toNatClampNeg) = 1 then (ck 4 a1 ((f8_copyFrom (M 0) (M ((a1).toNatClampNeg + 1))).bind (fun S6 => (st (va_up M ((a1).toNatClampNeg + 1) S6) (fun M7 => (some ((M7 0 0 0 3), M7))))))) else none)) else (some ((-2 : Int32), M))))
set_option maxHeartbeats 4000000 in
set_option maxRecDepth 100000 in
theorem f10_save_ok (l : Launch) (D : va_G) (cy : Nat → ClassId) (ad : Nat → Nat → Nat → Nat) (ns : List (Nat × Nat × Nat)) (hI0 : IsSt cy ad ns 0) (hI5 : IsPl cy ad ns 5) (hI6 : IsMain cy ad ns 6 0) (M : Me) (a1 : Int32) (r : Int32) (m2 : Me)  (hSv : ∀ r, r < 4 → M 6 0 1 r = 1 → IsSt cy ad ns (r + 1)) (hf : f10_save a1 M = some (r, m2)) : Ci l yX10_save (.code yX10_save cX10_save 2 (some .int) :: tk_tb) { frames := 4, cells := 0, slots := 0, locals := 90 } D cy ad ns [.ref (ad 6 0 0), .int a1] M r m2 := by
  refine Ci.of (by decide) (Nat.le_of_ble_eq_true rfl) ?_
  intro p e s m below meth c ls hE hW hl
  obtain ⟨hx, hb, hr, hml, hown, hts, hlk, hK⟩ := hE
  have hA : ∀ q : Nat, s.heap.size ≤ q → Aw ad ns s.heap.size q := fun q h => Or.inr h
  have hl : lv_has ls 2 [(0, .ref (ad 6 0 0)), (1, .int a1)] := hl
  unfold f10_save at hf
  refine lv_iload_n hx hb dX10_save_0 rfl (lv_at hl 1 rfl) ?_
  refine lv_if_lt (tgt := 9) hx hb dX10_save_1 (by decide) (fun c1 => ?_) (fun c1 => ?_)
  · replace hf := (if_pos c1).symm.trans hf
    refine lv_bipush (v := -2) hx hb dX10_save_9 (by decide) ?_
    exact x_iret hx hb hr hlk hK hW (congrArg Prod.fst (Option.some.inj hf)) (congrArg (fun q => (Prod.snd q)) (Option.some.inj hf)) dX10_save_11
  · replace hf := (if_neg c1).symm.trans hf
    refine lv_iload_n hx hb dX10_save_4 rfl (lv_at hl 1 rfl) ?_
    refine lv_iconst (v := 4) hx hb dX10_save_5 (by decide) ?_
    refine lv_icmp_lt (tgt := 12) hx hb dX10_save_6 (by decide) (fun c2 => ?_) (fun c2 => ?_)
    · replace hf := (if_pos c2).symm.trans hf
      refine lv_aload_n hx hb dX10_save_12 rfl (lv_at hl 0 rfl) ?_
      refine x_get hx hb hts hown hK hW (hI6.2 0 (by decide)) rfl (hI6.1 0 _) rfl inX10 4 (by decide) t_307 rfl dX10_save_13 ?_
      refine lv_iload_n hx hb dX10_save_16 rfl (lv_at hl 1 rfl) ?_
      obtain ⟨hi3, hf⟩ := ck_some hf
      by_cases hk1 : (M 6 0 1 (a1).toNatClampNeg) = 1
      · replace hf := (if_pos hk1).symm.trans hf
        refine x_aals1 hx hb hK hI6 hW hi3 hk1 dX10_save_17 ?_
        refine lv_ifnonnull (tgt := 46) hx hb dX10_save_18 (by decide) ?_
        refine lv_aload_n hx hb dX10_save_46 rfl (lv_at hl 0 rfl) ?_
        refine x_get hx hb hts hown hK hW (hI6.2 0 (by decide)) rfl (hI6.1 0 _) rfl inX10 4 (by decide) t_307 rfl dX10_save_47 ?_
        refine lv_iload_n hx hb dX10_save_50 rfl (lv_at hl 1 rfl) ?_
        obtain ⟨hi4, hf⟩ := ck_some hf
        refine x_aals1 hx hb hK hI6 hW hi4 hk1 dX10_save_51 ?_
        refine lv_aload_n hx hb dX10_save_52 rfl (lv_at hl 0 rfl) ?_
        refine x_get hx hb hts hown hK hW (hI6.2 0 (by decide)) rfl (hI6.1 0 _) rfl inX10 3 (by decide) t_306 rfl dX10_save_53 ?_
        obtain ⟨S6, hc5, hf⟩ := bd_some hf
        replace hf := st_some hf
        have hC8 := f8_copyFrom_ok l D cy ad ns M ((a1).toNatClampNeg + 1) (hSv _ (vp_lt hi4) hk1) 0 (by omega) hI0 (M 0) rfl (M ((a1).toNatClampNeg + 1)) S6 hc5
        rw [up_id] at hC8
        refine x_vv (n := 1) (As := [.ref (ad 0 0 0)]) (rest := []) hx hb hml hts hown hK hW hA hC8 ((hSv _ (vp_lt hi4) hk1).2 0 0 (by decide)) rfl ((hSv _ (vp_lt hi4) hk1).1 0 0 _) rfl rfl t_670 t_671 t_672 t_9 t_673 rfl (by decide +kernel) rfl rfl ⟨(Nat.le_of_ble_eq_true rfl), (Nat.le_of_ble_eq_true rfl)⟩ hl.1 rfl (lv_room (Nat.le_of_ble_eq_true rfl)) dX10_save_56 ⟨(Nat.le_of_ble_eq_true rfl), (Nat.le_of_ble_eq_true rfl)⟩ (fun H locs hW => ?_)
        generalize (va_up M ((a1).toNatClampNeg + 1) S6) = M7 at hf hW
        refine lv_aload_n hx hb dX10_save_59 rfl (lv_at hl 0 rfl) ?_
        refine x_get hx hb hts hown hK hW (hI6.2 0 (by decide)) rfl (hI6.1 0 _) rfl inX10 3 (by decide) t_306 rfl dX10_save_60 ?_
        refine x_get hx hb hts hown hK hW (hI0.2 0 0 (by decide)) rfl (hI0.1 0 0 _) rfl inX8 3 (by decide) t_290 rfl dX10_save_63 ?_
        exact x_iret hx hb hr hlk hK hW (congrArg Prod.fst (Option.some.inj hf)) (congrArg (fun q => (Prod.snd q)) (Option.some.inj hf)) dX10_save_66
      · replace hf := (if_neg hk1).symm.trans hf
        cases hf
    · replace hf := (if_neg c2).symm.trans hf
      refine lv_bipush (v := -2) hx hb dX10_save_9 (by decide) ?_
      exact x_iret hx hb hr hlk hK hW (congrArg Prod.fst (Option.some.inj hf)) (congrArg (fun q => (Prod.snd q)) (Option.some.inj hf)) dX10_save_11
