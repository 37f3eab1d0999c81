def f5_clear (n : Nat) (g : Sg) : Option Sg :=
  (st (va_up g 2 (fl n (0 : Int32) (g 2))) (fun g1 => (st (va_up g1 3 (fl n (0 : Int32) (g1 3))) (fun g2 => (st (va_up g2 4 (fl 100 (-1 : Int32) (g2 4))) (fun g3 => (some g3)))))))
set_option maxHeartbeats 4000000 in
set_option maxRecDepth 100000 in
theorem f5_clear_ok (l : Launch) (D : va_G) (cy : Nat → ClassId) (ad : Nat → Nat → Nat → Nat) (ns : List (Nat × Nat × Nat)) (M : Me) (t i n : Nat) (hn5 : n < 5) (hI : IsRows cy ad ns t i n) (g : Sg) (m2 : Sg)  (hf : f5_clear n g = some m2) : Cv l yX5_clear (.code yX5_clear cX5_clear 1 none :: tk_tb) { frames := 1, cells := 0, slots := 0, locals := 23 } D cy ad ns [.ref (ad t i 0)] (uI M t i g) (uI M t i m2) := by
  refine Cv.of (by decide) (Nat.le_of_ble_eq_true rfl) ?_
  intro p e s m below meth c ls hE hW hl
  obtain ⟨hx, hb, hr, hml, hown, hts, hlk, hK⟩ := hE
  have hA : ∀ q : Nat, s.heap.size ≤ q → Aw ad ns s.heap.size q := fun q h => Or.inr h
  have hl : lv_has ls 1 [(0, .ref (ad t i 0))] := hl
  unfold f5_clear at hf
  refine lv_aload_n hx hb dX5_clear_0 rfl (lv_at hl 0 rfl) ?_
  refine x_get hx hb hts hown hK hW (hI.2 0 (x_o (by decide))) uI_o (hI.1 0 _) rfl inX5 1 (by decide) t_97 rfl dX5_clear_1 ?_
  refine lv_iconst (v := 0) hx hb dX5_clear_4 (by decide) ?_
  replace hf := st_some hf
  refine x_fill hx hb hml hts hown hK hW hA (rest := []) (hI.2 2 (x_o (by decide))) uI_o (fun _ => (hI.1 2 _)) (by omega) uC_leaf t_92 (Nat.le_of_ble_eq_true rfl) (Nat.le_of_ble_eq_true rfl) hl.1 (lv_room (Nat.le_of_ble_eq_true rfl)) dX5_clear_5 ⟨(Nat.le_of_ble_eq_true rfl), (Nat.le_of_ble_eq_true rfl)⟩ (fun H locs hW => ?_)
  generalize (va_up g 2 (fl n (0 : Int32) (g 2))) = g1 at hf hW
  refine lv_aload_n hx hb dX5_clear_8 rfl (lv_at hl 0 rfl) ?_
  refine x_get hx hb hts hown hK hW (hI.2 0 (x_o (by decide))) uI_o (hI.1 0 _) rfl inX5 2 (by decide) t_100 rfl dX5_clear_9 ?_
  refine lv_iconst (v := 0) hx hb dX5_clear_12 (by decide) ?_
  replace hf := st_some hf
  refine x_fill hx hb hml hts hown hK hW hA (rest := []) (hI.2 3 (x_o (by decide))) uI_o (fun _ => (hI.1 3 _)) (by omega) uC_leaf t_92 (Nat.le_of_ble_eq_true rfl) (Nat.le_of_ble_eq_true rfl) hl.1 (lv_room (Nat.le_of_ble_eq_true rfl)) dX5_clear_13 ⟨(Nat.le_of_ble_eq_true rfl), (Nat.le_of_ble_eq_true rfl)⟩ (fun H locs hW => ?_)
  generalize (va_up g1 3 (fl n (0 : Int32) (g1 3))) = g2 at hf hW
  refine lv_aload_n hx hb dX5_clear_16 rfl (lv_at hl 0 rfl) ?_
  refine x_get hx hb hts hown hK hW (hI.2 0 (x_o (by decide))) uI_o (hI.1 0 _) rfl inX5 3 (by decide) t_103 rfl dX5_clear_17 ?_
  refine lv_iconst (v := -1) hx hb dX5_clear_20 (by decide) ?_
  replace hf := st_some hf
  refine x_fill hx hb hml hts hown hK hW hA (rest := []) (hI.2 4 (x_o (by decide))) uI_o (fun _ => (hI.1 4 _)) (by omega) uC_leaf t_92 (Nat.le_of_ble_eq_true rfl) (Nat.le_of_ble_eq_true rfl) hl.1 (lv_room (Nat.le_of_ble_eq_true rfl)) dX5_clear_21 ⟨(Nat.le_of_ble_eq_true rfl), (Nat.le_of_ble_eq_true rfl)⟩ (fun H locs hW => ?_)
  generalize (va_up g2 4 (fl 100 (-1 : Int32) (g2 4))) = g3 at hf hW
  exact x_vret hx hb hr hlk hK hW (congrArg (fun q => (uI M t i q)) (Option.some.inj hf)) dX5_clear_24
def f5_keyAt (n : Nat) (g : Sg) (a1 : Int32) (a2 : Int32) : Option Int32 :=
  (if a2 < 0 then (some (-1 : Int32)) else (rd n (g 2) a1 (fun v3 => (if v3 ≤ a2 then (some (-1 : Int32)) else (ck n a1 (rd 100 (g ((a1).toNatClampNeg + 6)) a2 (fun v7 => (some v7))))))))
set_option maxHeartbeats 4000000 in
set_option maxRecDepth 100000 in
theorem f5_keyAt_ok (l : Launch) (D : va_G) (cy : Nat → ClassId) (ad : Nat → Nat → Nat → Nat) (ns : List (Nat × Nat × Nat)) (M : Me) (t i n : Nat) (hn5 : n < 5) (hI : IsRows cy ad ns t i n) (g : Sg) (a1 : Int32) (a2 : Int32) (r : Int32)  (hf : f5_keyAt n g a1 a2 = some r) : Ci l yX5_keyAt (.code yX5_keyAt cX5_keyAt 3 (some .int) :: tk_tb) { frames := 0, cells := 0, slots := 0, locals := 0 } D cy ad ns [.ref (ad t i 0), .int a1, .int a2] (uI M t i g) r (uI M t i g) := by
  refine Ci.of (by decide) (Nat.le_of_ble_eq_true rfl) ?_
  intro p e s m below meth c ls hE hW hl
  obtain ⟨hx, hb, hr, hml, hown, hts, hlk, hK⟩ := hE
  have hA : ∀ q : Nat, s.heap.size ≤ q → Aw ad ns s.heap.size q := fun q h => Or.inr h
  have hl : lv_has ls 3 [(0, .ref (ad t i 0)), (1, .int a1), (2, .int a2)] := hl
  unfold f5_keyAt at hf
  refine lv_iload_n hx hb dX5_keyAt_0 rfl (lv_at hl 2 rfl) ?_
  refine lv_if_lt (tgt := 25) hx hb dX5_keyAt_1 (by decide) (fun c1 => ?_) (fun c1 => ?_)
  · replace hf := (if_pos c1).symm.trans hf
    refine lv_iconst (v := -1) hx hb dX5_keyAt_25 (by decide) ?_
    exact x_iret hx hb hr hlk hK hW (Option.some.inj hf) rfl dX5_keyAt_26
  · replace hf := (if_neg c1).symm.trans hf
    refine lv_iload_n hx hb dX5_keyAt_4 rfl (lv_at hl 2 rfl) ?_
    refine lv_aload_n hx hb dX5_keyAt_5 rfl (lv_at hl 0 rfl) ?_
    refine x_get hx hb hts hown hK hW (hI.2 0 (x_o (by decide))) uI_o (hI.1 0 _) rfl inX5 1 (by decide) t_97 rfl dX5_keyAt_6 ?_
    refine lv_iload_n hx hb dX5_keyAt_9 rfl (lv_at hl 1 rfl) ?_
    obtain ⟨hi2, hf⟩ := rd_some hf
    refine x_iald hx hb hK hW (hI.2 2 (x_o (by decide))) uI_o (hI.1 2 _) hi2 dX5_keyAt_10 ?_
    generalize g 2 (a1).toNatClampNeg = v3 at hf ⊢
    refine lv_icmp_ge (tgt := 25) hx hb dX5_keyAt_11 (by decide) (fun c4 => ?_) (fun c4 => ?_)
    · replace hf := (if_pos c4).symm.trans hf
      refine lv_iconst (v := -1) hx hb dX5_keyAt_25 (by decide) ?_
      exact x_iret hx hb hr hlk hK hW (Option.some.inj hf) rfl dX5_keyAt_26
    · replace hf := (if_neg c4).symm.trans hf
      refine lv_aload_n hx hb dX5_keyAt_14 rfl (lv_at hl 0 rfl) ?_
      refine x_get hx hb hts hown hK hW (hI.2 0 (x_o (by decide))) uI_o (hI.1 0 _) rfl inX5 0 (by decide) t_95 rfl dX5_keyAt_15 ?_
      refine lv_iload_n hx hb dX5_keyAt_18 rfl (lv_at hl 1 rfl) ?_
      obtain ⟨hi5, hf⟩ := ck_some hf
      refine x_aald hx hb hK hW (hI.2 1 (x_o (by decide))) uI_o (hI.1 1 _) hi5 dX5_keyAt_19 ?_
      refine lv_iload_n hx hb dX5_keyAt_20 rfl (lv_at hl 2 rfl) ?_
      obtain ⟨hi6, hf⟩ := rd_some hf
      refine x_iald hx hb hK hW (hI.2 _ (x_lt2 (vp_lt hi5))) uI_o (hI.1 _ _) hi6 dX5_keyAt_21 ?_
      generalize g ((a1).toNatClampNeg + 6) (a2).toNatClampNeg = v7 at hf ⊢
      refine lv_goto (tgt := 26) hx hb dX5_keyAt_22 (by decide) ?_
      exact x_iret hx hb hr hlk hK hW (Option.some.inj hf) rfl dX5_keyAt_26
def f5_takeOut_j56 (n : Nat) (rec36 : Int32 → Int32 → Int32 → Int32 → Int32 → Int32 → Sg → Option Sg) (w1 : Int32) (w2 : Int32) (w3 : Int32) (w4 : Int32) (w6 : Int32) (g : Sg) : Option Sg :=
  (rd 100 (g ((w3).toNatClampNeg + 6)) (w6 + (1 : Int32)) (fun v13 => (wr 100 w6 (va_up g ((w3).toNatClampNeg + 6) (upd (g ((w3).toNatClampNeg + 6)) (w6).toNatClampNeg v13)) (fun g15 => (rec36 w1 w2 w3 w4 (1 : Int32) (w6 + (1 : Int32)) g15)))))
def f5_takeOut_j84 (n : Nat) (w1 : Int32) (w2 : Int32) (w4 : Int32) (g : Sg) : Option Sg :=
  (wr n w2 (va_up g 2 (upd (g 2) (w2).toNatClampNeg w4)) (fun g17 => (rd n (g17 3) w2 (fun v19 => (rd 100 (g17 5) w1 (fun v21 => (wr n w2 (va_up g17 3 (upd (g17 3) (w2).toNatClampNeg (v19 - v21))) (fun g23 => (wr 100 w1 (va_up g23 4 (upd (g23 4) (w1).toNatClampNeg (-1 : Int32))) (fun g25 => (some g25)))))))))))
def f5_takeOut_b36 (n : Nat) (rec36 : Int32 → Int32 → Int32 → Int32 → Int32 → Int32 → Sg → Option Sg) (w1 : Int32) (w2 : Int32) (w3 : Int32) (w4 : Int32) (w5 : Int32) (w6 : Int32) (g : Sg) : Option Sg :=
  (if w4 ≤ w6 then (f5_takeOut_j84 n w1 w2 w4 g) else (if w5 = 0 then (rd 100 (g ((w3).toNatClampNeg + 6)) w6 (fun v10 => (if v10 = w1 then (f5_takeOut_j56 n rec36 w1 w2 w3 w4 w6 g) else (rec36 w1 w2 w3 w4 (0 : Int32) (w6 + (1 : Int32)) g)))) else (f5_takeOut_j56 n rec36 w1 w2 w3 w4 w6 g)))
def f5_takeOut_l36 (n : Nat) : Nat → Int32 → Int32 → Int32 → Int32 → Int32 → Int32 → Sg → Option Sg
  | 0 => fun _ _ _ _ _ _ _ => none
  | k + 1 => f5_takeOut_b36 n (f5_takeOut_l36 n k)
def f5_takeOut (n : Nat) (a1 : Int32) (g : Sg) : Option Sg :=
  (rd 100 (g 4) a1 (fun v2 => (if v2 = (-1 : Int32) then (some g) else (ck n v2 (rd n (g 2) v2 (fun v6 => (f5_takeOut_l36 n NF a1 v2 v2 (v6 - (1 : Int32)) (0 : Int32) (0 : Int32) g)))))))
set_option maxHeartbeats 4000000 in
set_option maxRecDepth 100000 in
theorem f5_takeOut_ok (l : Launch) (D : va_G) (cy : Nat → ClassId) (ad : Nat → Nat → Nat → Nat) (ns : List (Nat × Nat × Nat)) (M : Me) (t i n : Nat) (hn5 : n < 5) (hI : IsRows cy ad ns t i n) (g : Sg) (a1 : Int32) (m2 : Sg)  (hf : f5_takeOut n a1 g = some m2) : Cv l yX5_takeOut (.code yX5_takeOut cX5_takeOut 7 none :: tk_tb) { frames := 0, cells := 0, slots := 0, locals := 0 } D cy ad ns [.ref (ad t i 0), .int a1] (uI M t i g) (uI M t i m2) := by
  refine Cv.of (by decide) (Nat.le_of_ble_eq_true rfl) ?_
  intro p e s m below meth c ls hE hW hl
  obtain ⟨hx, hb, hr, hml, hown, hts, hlk, hK⟩ := hE
  have hA : ∀ q : Nat, s.heap.size ≤ q → Aw ad ns s.heap.size q := fun q h => Or.inr h
  have hl : lv_has ls 7 [(0, .ref (ad t i 0)), (1, .int a1)] := hl
  unfold f5_takeOut at hf
  have J84 : ∀ (w1 : Int32) (w2 : Int32) (w4 : Int32) (g : Sg) (H : Heap) (locs : List Loc) (ls : Array Slot), f5_takeOut_j84 n w1 w2 w4 g = some m2 → Wl D cy ad ns (Aw ad ns s.heap.size) s.heap (uI M t i g) H locs → lv_has ls 7 [(0, .ref (ad t i 0)), (1, .int w1), (2, .int w2), (4, .int w4)] → W p l e { frames := 0, cells := 0, slots := 0, locals := 0 } s m ([.ref (ad t i 0), .int a1] : List Value).toArray below meth c H locs 0 0 (QV below D cy ad ns [.ref (ad t i 0), .int a1] s (uI M t i m2)) (F0 m 84 ls []) := by
    intro w1 w2 w4 g H locs ls hf hW hl
    unfold f5_takeOut_j84 at hf
    refine lv_aload_n hx hb dX5_takeOut_84 rfl (lv_at hl 0 rfl) ?_
    refine x_get hx hb hts hown hK hW (hI.2 0 (x_o (by decide))) uI_o (hI.1 0 _) rfl inX5 1 (by decide) t_97 rfl dX5_takeOut_85 ?_
    refine lv_iload_n hx hb dX5_takeOut_88 rfl (lv_at hl 2 rfl) ?_
    refine lv_iload hx hb dX5_takeOut_89 (lv_at hl 3 rfl) ?_
    obtain ⟨hi16, hf⟩ := wr_some hf
    refine x_iast hx hb hK hW (hI.2 2 (x_o (by decide))) uI_o (fun _ => (hI.1 2 _)) hi16 uC_leaf dX5_takeOut_91 (fun H locs hW => ?_)
    generalize (va_up g 2 (upd (g 2) (w2).toNatClampNeg w4)) = g17 at hf hW
    refine lv_aload_n hx hb dX5_takeOut_92 rfl (lv_at hl 0 rfl) ?_
    refine x_get hx hb hts hown hK hW (hI.2 0 (x_o (by decide))) uI_o (hI.1 0 _) rfl inX5 2 (by decide) t_100 rfl dX5_takeOut_93 ?_
    refine lv_iload_n hx hb dX5_takeOut_96 rfl (lv_at hl 2 rfl) ?_
    refine lv_dup2_11 hx hb dX5_takeOut_97 rfl rfl ?_
    obtain ⟨hi18, hf⟩ := rd_some hf
    refine x_iald hx hb hK hW (hI.2 3 (x_o (by decide))) uI_o (hI.1 3 _) hi18 dX5_takeOut_98 ?_
    generalize g17 3 (w2).toNatClampNeg = v19 at hf ⊢
    refine lv_aload_n hx hb dX5_takeOut_99 rfl (lv_at hl 0 rfl) ?_
    refine x_get hx hb hts hown hK hW (hI.2 0 (x_o (by decide))) uI_o (hI.1 0 _) rfl inX5 4 (by decide) t_108 rfl dX5_takeOut_100 ?_
    refine lv_iload_n hx hb dX5_takeOut_103 rfl (lv_at hl 1 rfl) ?_
    obtain ⟨hi20, hf⟩ := rd_some hf
    refine x_iald hx hb hK hW (hI.2 5 (x_o (by decide))) uI_o (hI.1 5 _) hi20 dX5_takeOut_104 ?_
    generalize g17 5 (w1).toNatClampNeg = v21 at hf ⊢
    refine lv_isub hx hb dX5_takeOut_105 ?_
    obtain ⟨hi22, hf⟩ := wr_some hf
    refine x_iast hx hb hK hW (hI.2 3 (x_o (by decide))) uI_o (fun _ => (hI.1 3 _)) hi22 uC_leaf dX5_takeOut_106 (fun H locs hW => ?_)
    generalize (va_up g17 3 (upd (g17 3) (w2).toNatClampNeg (v19 - v21))) = g23 at hf hW
    refine lv_aload_n hx hb dX5_takeOut_107 rfl (lv_at hl 0 rfl) ?_
    refine x_get hx hb hts hown hK hW (hI.2 0 (x_o (by decide))) uI_o (hI.1 0 _) rfl inX5 3 (by decide) t_103 rfl dX5_takeOut_108 ?_
    refine lv_iload_n hx hb dX5_takeOut_111 rfl (lv_at hl 1 rfl) ?_
    refine lv_iconst (v := -1) hx hb dX5_takeOut_112 (by decide) ?_
    obtain ⟨hi24, hf⟩ := wr_some hf
    refine x_iast hx hb hK hW (hI.2 4 (x_o (by decide))) uI_o (fun _ => (hI.1 4 _)) hi24 uC_leaf dX5_takeOut_113 (fun H locs hW => ?_)
    generalize (va_up g23 4 (upd (g23 4) (w1).toNatClampNeg (-1 : Int32))) = g25 at hf hW
    exact x_vret hx hb hr hlk hK hW (congrArg (fun q => (uI M t i q)) (Option.some.inj hf)) dX5_takeOut_114
  refine lv_aload_n hx hb dX5_takeOut_0 rfl (lv_at hl 0 rfl) ?_
  refine x_get hx hb hts hown hK hW (hI.2 0 (x_o (by decide))) uI_o (hI.1 0 _) rfl inX5 3 (by decide) t_103 rfl dX5_takeOut_1 ?_
  refine lv_iload_n hx hb dX5_takeOut_4 rfl (lv_at hl 1 rfl) ?_
  obtain ⟨hi1, hf⟩ := rd_some hf
  refine x_iald hx hb hK hW (hI.2 4 (x_o (by decide))) uI_o (hI.1 4 _) hi1 dX5_takeOut_5 ?_
  generalize g 4 (a1).toNatClampNeg = v2 at hf ⊢
  refine lv_istore_n (lv' := [(2, .int v2), (0, .ref (ad t i 0)), (1, .int a1)]) hx hb dX5_takeOut_6 rfl hl (by decide) rfl (fun ls hl => ?_)
  refine lv_iload_n hx hb dX5_takeOut_7 rfl (lv_at hl 0 rfl) ?_
  refine lv_iconst (v := -1) hx hb dX5_takeOut_8 (by decide) ?_
  refine lv_icmp_ne (tgt := 13) hx hb dX5_takeOut_9 (by decide) (fun c3 => ?_) (fun c3 => ?_)
  · replace hf := (if_neg c3).symm.trans hf
    refine lv_aload_n hx hb dX5_takeOut_13 rfl (lv_at hl 1 rfl) ?_
    refine x_get hx hb hts hown hK hW (hI.2 0 (x_o (by decide))) uI_o (hI.1 0 _) rfl inX5 0 (by decide) t_95 rfl dX5_takeOut_14 ?_
    refine lv_iload_n hx hb dX5_takeOut_17 rfl (lv_at hl 0 rfl) ?_
    obtain ⟨hi4, hf⟩ := ck_some hf
    refine x_aald hx hb hK hW (hI.2 1 (x_o (by decide))) uI_o (hI.1 1 _) hi4 dX5_takeOut_18 ?_
    refine lv_astore_n (lv' := [(3, .ref (ad t i ((v2).toNatClampNeg + 6))), (2, .int v2), (0, .ref (ad t i 0)), (1, .int a1)]) hx hb dX5_takeOut_19 rfl hl (by decide) rfl (fun ls hl => ?_)
    refine lv_aload_n hx hb dX5_takeOut_20 rfl (lv_at hl 2 rfl) ?_
    refine x_get hx hb hts hown hK hW (hI.2 0 (x_o (by decide))) uI_o (hI.1 0 _) rfl inX5 1 (by decide) t_97 rfl dX5_takeOut_21 ?_
    refine lv_iload_n hx hb dX5_takeOut_24 rfl (lv_at hl 1 rfl) ?_
    obtain ⟨hi5, hf⟩ := rd_some hf
    refine x_iald hx hb hK hW (hI.2 2 (x_o (by decide))) uI_o (hI.1 2 _) hi5 dX5_takeOut_25 ?_
    generalize g 2 (v2).toNatClampNeg = v6 at hf ⊢
    refine lv_iconst (v := 1) hx hb dX5_takeOut_26 (by decide) ?_
    refine lv_isub hx hb dX5_takeOut_27 ?_
    refine lv_istore (lv' := [(4, .int (v6 - (1 : Int32))), (3, .ref (ad t i ((v2).toNatClampNeg + 6))), (2, .int v2), (0, .ref (ad t i 0)), (1, .int a1)]) hx hb dX5_takeOut_28 hl (by decide) rfl (fun ls hl => ?_)
    refine lv_iconst (v := 0) hx hb dX5_takeOut_30 (by decide) ?_
    refine lv_istore (lv' := [(5, .int (0 : Int32)), (4, .int (v6 - (1 : Int32))), (3, .ref (ad t i ((v2).toNatClampNeg + 6))), (2, .int v2), (0, .ref (ad t i 0)), (1, .int a1)]) hx hb dX5_takeOut_31 hl (by decide) rfl (fun ls hl => ?_)
    refine lv_iconst (v := 0) hx hb dX5_takeOut_33 (by decide) ?_
    refine lv_istore (lv' := [(6, .int (0 : Int32)), (5, .int (0 : Int32)), (4, .int (v6 - (1 : Int32))), (3, .ref (ad t i ((v2).toNatClampNeg + 6))), (2, .int v2), (0, .ref (ad t i 0)), (1, .int a1)]) hx hb dX5_takeOut_34 hl (by decide) rfl (fun ls hl => ?_)
    have L36 : ∀ (k : Nat) (w1 : Int32) (w2 : Int32) (w3 : Int32) (w4 : Int32) (w5 : Int32) (w6 : Int32) (g : Sg) (H : Heap) (locs : List Loc) (ls : Array Slot), vp_in w3 n → f5_takeOut_l36 n k w1 w2 w3 w4 w5 w6 g = some m2 → Wl D cy ad ns (Aw ad ns s.heap.size) s.heap (uI M t i g) H locs → lv_has ls 7 [(0, .ref (ad t i 0)), (1, .int w1), (2, .int w2), (3, .ref (ad t i ((w3).toNatClampNeg + 6))), (4, .int w4), (5, .int w5), (6, .int w6)] → W p l e { frames := 0, cells := 0, slots := 0, locals := 0 } s m ([.ref (ad t i 0), .int a1] : List Value).toArray below meth c H locs 0 0 (QV below D cy ad ns [.ref (ad t i 0), .int a1] s (uI M t i m2)) (F0 m 36 ls []) := by
      intro k
      induction k with
      | zero => intro w1 w2 w3 w4 w5 w6 g H locs ls hw3 hf; exact absurd hf (by simp [f5_takeOut_l36])
      | succ k36 ih36 =>
        intro w1 w2 w3 w4 w5 w6 g H locs ls hw3 hf hW hl
        have hf : f5_takeOut_b36 n (f5_takeOut_l36 n k36) w1 w2 w3 w4 w5 w6 g = some m2 := hf
        unfold f5_takeOut_b36 at hf
        have J56 : ∀ (w1 : Int32) (w2 : Int32) (w3 : Int32) (w4 : Int32) (w6 : Int32) (g : Sg) (H : Heap) (locs : List Loc) (ls : Array Slot), vp_in w3 n → f5_takeOut_j56 n (f5_takeOut_l36 n k36) w1 w2 w3 w4 w6 g = some m2 → Wl D cy ad ns (Aw ad ns s.heap.size) s.heap (uI M t i g) H locs → lv_has ls 7 [(0, .ref (ad t i 0)), (1, .int w1), (2, .int w2), (3, .ref (ad t i ((w3).toNatClampNeg + 6))), (4, .int w4), (6, .int w6)] → W p l e { frames := 0, cells := 0, slots := 0, locals := 0 } s m ([.ref (ad t i 0), .int a1] : List Value).toArray below meth c H locs 0 0 (QV below D cy ad ns [.ref (ad t i 0), .int a1] s (uI M t i m2)) (F0 m 56 ls []) := by
          intro w1 w2 w3 w4 w6 g H locs ls hw3 hf hW hl
          unfold f5_takeOut_j56 at hf
          refine lv_iconst (v := 1) hx hb dX5_takeOut_56 (by decide) ?_
          refine lv_goto (tgt := 61) hx hb dX5_takeOut_57 (by decide) ?_
          refine lv_istore (lv' := [(5, .int (1 : Int32)), (0, .ref (ad t i 0)), (1, .int w1), (2, .int w2), (3, .ref (ad t i ((w3).toNatClampNeg + 6))), (4, .int w4), (6, .int w6)]) hx hb dX5_takeOut_61 hl (by decide) rfl (fun ls hl => ?_)
          refine lv_iload hx hb dX5_takeOut_63 (lv_at hl 0 rfl) ?_
          refine lv_if_eq (tgt := 78) hx hb dX5_takeOut_65 (by decide) (fun c9 => absurd c9 (by decide)) (fun _ => ?_)
          refine lv_aload_n hx hb dX5_takeOut_68 rfl (lv_at hl 4 rfl) ?_
          refine lv_iload hx hb dX5_takeOut_69 (lv_at hl 6 rfl) ?_
          refine lv_aload_n hx hb dX5_takeOut_71 rfl (lv_at hl 4 rfl) ?_
          refine lv_iload hx hb dX5_takeOut_72 (lv_at hl 6 rfl) ?_
          refine lv_iconst (v := 1) hx hb dX5_takeOut_74 (by decide) ?_
          refine lv_iadd hx hb dX5_takeOut_75 ?_
          obtain ⟨hi12, hf⟩ := rd_some hf
          refine x_iald hx hb hK hW (hI.2 _ (x_lt2 (vp_lt hw3))) uI_o (hI.1 _ _) hi12 dX5_takeOut_76 ?_
          generalize g ((w3).toNatClampNeg + 6) ((w6 + (1 : Int32))).toNatClampNeg = v13 at hf ⊢
          obtain ⟨hi14, hf⟩ := wr_some hf
          refine x_iast hx hb hK hW (hI.2 _ (x_lt2 (vp_lt hw3))) uI_o (fun _ => (hI.1 _ _)) hi14 uC_leaf dX5_takeOut_77 (fun H locs hW => ?_)
          generalize (va_up g ((w3).toNatClampNeg + 6) (upd (g ((w3).toNatClampNeg + 6)) (w6).toNatClampNeg v13)) = g15 at hf hW
          refine lv_iinc (v := (w6 + (1 : Int32))) (lv' := [(6, .int (w6 + (1 : Int32))), (5, .int (1 : Int32)), (0, .ref (ad t i 0)), (1, .int w1), (2, .int w2), (3, .ref (ad t i ((w3).toNatClampNeg + 6))), (4, .int w4)]) hx hb dX5_takeOut_78 hl (k := 6) rfl (by first | rfl | decide) (by decide) rfl (fun ls hl => ?_)
          refine lv_goto (tgt := 36) hx hb dX5_takeOut_81 (by decide) ?_
          exact ih36 _ _ _ _ _ _ _ _ _ _ hw3 hf hW (lv_sub hl [2, 3, 4, 5, 6, 1, 0] rfl)
        refine lv_iload hx hb dX5_takeOut_36 (lv_at hl 6 rfl) ?_
        refine lv_iload hx hb dX5_takeOut_38 (lv_at hl 4 rfl) ?_
        refine lv_icmp_ge (tgt := 84) hx hb dX5_takeOut_40 (by decide) (fun c7 => ?_) (fun c7 => ?_)
        · replace hf := (if_pos c7).symm.trans hf
          exact J84 _ _ _ _ _ _ _ hf hW (lv_sub hl [0, 1, 2, 4] rfl)
        · replace hf := (if_neg c7).symm.trans hf
          refine lv_iload hx hb dX5_takeOut_43 (lv_at hl 5 rfl) ?_
          refine lv_if_ne (tgt := 56) hx hb dX5_takeOut_45 (by decide) (fun c8 => ?_) (fun c8 => ?_)
          · replace hf := (if_neg c8).symm.trans hf
            exact J56 _ _ _ _ _ _ _ _ _ hw3 hf hW (lv_sub hl [0, 1, 2, 3, 4, 6] rfl)
          · replace hf := (if_pos c8).symm.trans hf
            refine lv_aload_n hx hb dX5_takeOut_48 rfl (lv_at hl 3 rfl) ?_
            refine lv_iload hx hb dX5_takeOut_49 (lv_at hl 6 rfl) ?_
            obtain ⟨hi9, hf⟩ := rd_some hf
            refine x_iald hx hb hK hW (hI.2 _ (x_lt2 (vp_lt hw3))) uI_o (hI.1 _ _) hi9 dX5_takeOut_51 ?_
            generalize g ((w3).toNatClampNeg + 6) (w6).toNatClampNeg = v10 at hf ⊢
            refine lv_iload_n hx hb dX5_takeOut_52 rfl (lv_at hl 1 rfl) ?_
            refine lv_icmp_ne (tgt := 60) hx hb dX5_takeOut_53 (by decide) (fun c11 => ?_) (fun c11 => ?_)
            · replace hf := (if_neg c11).symm.trans hf
              refine lv_iconst (v := 0) hx hb dX5_takeOut_60 (by decide) ?_
              refine lv_istore (lv' := [(5, .int (0 : Int32)), (0, .ref (ad t i 0)), (1, .int w1), (2, .int w2), (3, .ref (ad t i ((w3).toNatClampNeg + 6))), (4, .int w4), (6, .int w6)]) hx hb dX5_takeOut_61 hl (by decide) rfl (fun ls hl => ?_)
              refine lv_iload hx hb dX5_takeOut_63 (lv_at hl 0 rfl) ?_
              refine lv_if_eq (tgt := 78) hx hb dX5_takeOut_65 (by decide) (fun _ => ?_) (fun c9 => absurd (by decide) c9)
              refine lv_iinc (v := (w6 + (1 : Int32))) (lv' := [(6, .int (w6 + (1 : Int32))), (5, .int (0 : Int32)), (0, .ref (ad t i 0)), (1, .int w1), (2, .int w2), (3, .ref (ad t i ((w3).toNatClampNeg + 6))), (4, .int w4)]) hx hb dX5_takeOut_78 hl (k := 6) rfl (by first | rfl | decide) (by decide) rfl (fun ls hl => ?_)
              refine lv_goto (tgt := 36) hx hb dX5_takeOut_81 (by decide) ?_
              exact ih36 _ _ _ _ _ _ _ _ _ _ hw3 hf hW (lv_sub hl [2, 3, 4, 5, 6, 1, 0] rfl)
            · replace hf := (if_pos c11).symm.trans hf
              exact J56 _ _ _ _ _ _ _ _ _ hw3 hf hW (lv_sub hl [0, 1, 2, 3, 4, 6] rfl)
    exact L36 NF _ _ _ _ _ _ _ _ _ _ hi4 hf hW (lv_sub hl [5, 6, 4, 3, 2, 1, 0] rfl)
  · replace hf := (if_pos c3).symm.trans hf
    exact x_vret hx hb hr hlk hK hW (congrArg (fun q => (uI M t i q)) (Option.some.inj hf)) dX5_takeOut_12
def f5_append (n : Nat) (a1 : Int32) (a2 : Int32) (g : Sg) : Option Sg :=
  (rd n (g 2) a1 (fun v2 => (if v2 < (100 : Int32) then (ck n a1 (wr 100 v2 (va_up g ((a1).toNatClampNeg + 6) (upd (g ((a1).toNatClampNeg + 6)) (v2).toNatClampNeg a2)) (fun g6 => (wr n a1 (va_up g6 2 (upd (g6 2) (a1).toNatClampNeg (v2 + (1 : Int32)))) (fun g8 => (rd n (g8 3) a1 (fun v10 => (rd 100 (g8 5) a2 (fun v12 => (wr n a1 (va_up g8 3 (upd (g8 3) (a1).toNatClampNeg (v10 + v12))) (fun g14 => (wr 100 a2 (va_up g14 4 (upd (g14 4) (a2).toNatClampNeg a1)) (fun g16 => (some g16)))))))))))))) else (some g))))
set_option maxHeartbeats 4000000 in
set_option maxRecDepth 100000 in
theorem f5_append_ok (l : Launch) (D : va_G) (cy : Nat → ClassId) (ad : Nat → Nat → Nat → Nat) (ns : List (Nat × Nat × Nat)) (M : Me) (t i n : Nat) (hn5 : n < 5) (hI : IsRows cy ad ns t i n) (g : Sg) (a1 : Int32) (a2 : Int32) (m2 : Sg)  (hf : f5_append n a1 a2 g = some m2) : Cv l yX5_append (.code yX5_append cX5_append 4 none :: tk_tb) { frames := 0, cells := 0, slots := 0, locals := 0 } D cy ad ns [.ref (ad t i 0), .int a1, .int a2] (uI M t i g) (uI M t i m2) := by
  refine Cv.of (by decide) (Nat.le_of_ble_eq_true rfl) ?_
  intro p e s m below meth c ls hE hW hl
  obtain ⟨hx, hb, hr, hml, hown, hts, hlk, hK⟩ := hE
  have hA : ∀ q : Nat, s.heap.size ≤ q → Aw ad ns s.heap.size q := fun q h => Or.inr h
  have hl : lv_has ls 4 [(0, .ref (ad t i 0)), (1, .int a1), (2, .int a2)] := hl
  unfold f5_append at hf
  refine lv_aload_n hx hb dX5_append_0 rfl (lv_at hl 0 rfl) ?_
  refine x_get hx hb hts hown hK hW (hI.2 0 (x_o (by decide))) uI_o (hI.1 0 _) rfl inX5 1 (by decide) t_97 rfl dX5_append_1 ?_
  refine lv_iload_n hx hb dX5_append_4 rfl (lv_at hl 1 rfl) ?_
  obtain ⟨hi1, hf⟩ := rd_some hf
  refine x_iald hx hb hK hW (hI.2 2 (x_o (by decide))) uI_o (hI.1 2 _) hi1 dX5_append_5 ?_
  generalize g 2 (a1).toNatClampNeg = v2 at hf ⊢
  refine lv_istore_n (lv' := [(3, .int v2), (0, .ref (ad t i 0)), (1, .int a1), (2, .int a2)]) hx hb dX5_append_6 rfl hl (by decide) rfl (fun ls hl => ?_)
  refine lv_iload_n hx hb dX5_append_7 rfl (lv_at hl 0 rfl) ?_
  refine lv_bipush (v := 100) hx hb dX5_append_8 (by decide) ?_
  refine lv_icmp_lt (tgt := 14) hx hb dX5_append_10 (by decide) (fun c3 => ?_) (fun c3 => ?_)
  · replace hf := (if_pos c3).symm.trans hf
    refine lv_aload_n hx hb dX5_append_14 rfl (lv_at hl 1 rfl) ?_
    refine x_get hx hb hts hown hK hW (hI.2 0 (x_o (by decide))) uI_o (hI.1 0 _) rfl inX5 0 (by decide) t_95 rfl dX5_append_15 ?_
    refine lv_iload_n hx hb dX5_append_18 rfl (lv_at hl 2 rfl) ?_
    obtain ⟨hi4, hf⟩ := ck_some hf
    refine x_aald hx hb hK hW (hI.2 1 (x_o (by decide))) uI_o (hI.1 1 _) hi4 dX5_append_19 ?_
    refine lv_iload_n hx hb dX5_append_20 rfl (lv_at hl 0 rfl) ?_
    refine lv_iload_n hx hb dX5_append_21 rfl (lv_at hl 3 rfl) ?_
    obtain ⟨hi5, hf⟩ := wr_some hf
    refine x_iast hx hb hK hW (hI.2 _ (x_lt2 (vp_lt hi4))) uI_o (fun _ => (hI.1 _ _)) hi5 uC_leaf dX5_append_22 (fun H locs hW => ?_)
    generalize (va_up g ((a1).toNatClampNeg + 6) (upd (g ((a1).toNatClampNeg + 6)) (v2).toNatClampNeg a2)) = g6 at hf hW
    refine lv_aload_n hx hb dX5_append_23 rfl (lv_at hl 1 rfl) ?_
    refine x_get hx hb hts hown hK hW (hI.2 0 (x_o (by decide))) uI_o (hI.1 0 _) rfl inX5 1 (by decide) t_97 rfl dX5_append_24 ?_
    refine lv_iload_n hx hb dX5_append_27 rfl (lv_at hl 2 rfl) ?_
    refine lv_iload_n hx hb dX5_append_28 rfl (lv_at hl 0 rfl) ?_
    refine lv_iconst (v := 1) hx hb dX5_append_29 (by decide) ?_
    refine lv_iadd hx hb dX5_append_30 ?_
    obtain ⟨hi7, hf⟩ := wr_some hf
    refine x_iast hx hb hK hW (hI.2 2 (x_o (by decide))) uI_o (fun _ => (hI.1 2 _)) hi7 uC_leaf dX5_append_31 (fun H locs hW => ?_)
    generalize (va_up g6 2 (upd (g6 2) (a1).toNatClampNeg (v2 + (1 : Int32)))) = g8 at hf hW
    refine lv_aload_n hx hb dX5_append_32 rfl (lv_at hl 1 rfl) ?_
    refine x_get hx hb hts hown hK hW (hI.2 0 (x_o (by decide))) uI_o (hI.1 0 _) rfl inX5 2 (by decide) t_100 rfl dX5_append_33 ?_
    refine lv_iload_n hx hb dX5_append_36 rfl (lv_at hl 2 rfl) ?_
    refine lv_dup2_11 hx hb dX5_append_37 rfl rfl ?_
    obtain ⟨hi9, hf⟩ := rd_some hf
    refine x_iald hx hb hK hW (hI.2 3 (x_o (by decide))) uI_o (hI.1 3 _) hi9 dX5_append_38 ?_
    generalize g8 3 (a1).toNatClampNeg = v10 at hf ⊢
    refine lv_aload_n hx hb dX5_append_39 rfl (lv_at hl 1 rfl) ?_
    refine x_get hx hb hts hown hK hW (hI.2 0 (x_o (by decide))) uI_o (hI.1 0 _) rfl inX5 4 (by decide) t_108 rfl dX5_append_40 ?_
    refine lv_iload_n hx hb dX5_append_43 rfl (lv_at hl 3 rfl) ?_
    obtain ⟨hi11, hf⟩ := rd_some hf
    refine x_iald hx hb hK hW (hI.2 5 (x_o (by decide))) uI_o (hI.1 5 _) hi11 dX5_append_44 ?_
    generalize g8 5 (a2).toNatClampNeg = v12 at hf ⊢
    refine lv_iadd hx hb dX5_append_45 ?_
    obtain ⟨hi13, hf⟩ := wr_some hf
    refine x_iast hx hb hK hW (hI.2 3 (x_o (by decide))) uI_o (fun _ => (hI.1 3 _)) hi13 uC_leaf dX5_append_46 (fun H locs hW => ?_)
    generalize (va_up g8 3 (upd (g8 3) (a1).toNatClampNeg (v10 + v12))) = g14 at hf hW
    refine lv_aload_n hx hb dX5_append_47 rfl (lv_at hl 1 rfl) ?_
    refine x_get hx hb hts hown hK hW (hI.2 0 (x_o (by decide))) uI_o (hI.1 0 _) rfl inX5 3 (by decide) t_103 rfl dX5_append_48 ?_
    refine lv_iload_n hx hb dX5_append_51 rfl (lv_at hl 3 rfl) ?_
    refine lv_iload_n hx hb dX5_append_52 rfl (lv_at hl 2 rfl) ?_
    obtain ⟨hi15, hf⟩ := wr_some hf
    refine x_iast hx hb hK hW (hI.2 4 (x_o (by decide))) uI_o (fun _ => (hI.1 4 _)) hi15 uC_leaf dX5_append_53 (fun H locs hW => ?_)
    generalize (va_up g14 4 (upd (g14 4) (a2).toNatClampNeg a1)) = g16 at hf hW
    exact x_vret hx hb hr hlk hK hW (congrArg (fun q => (uI M t i q)) (Option.some.inj hf)) dX5_append_54
  · replace hf := (if_neg c3).symm.trans hf
    exact x_vret hx hb hr hlk hK hW (congrArg (fun q => (uI M t i q)) (Option.some.inj hf)) dX5_append_13
def f5_moveToLast (n : Nat) (a1 : Int32) (a2 : Int32) (g : Sg) : Option Sg :=
  ((f5_takeOut n a2 g).bind (fun g2 => ((f5_append n a1 a2 g2).bind (fun g5 => (some g5)))))
set_option maxHeartbeats 4000000 in
set_option maxRecDepth 100000 in
theorem f5_moveToLast_ok (l : Launch) (D : va_G) (cy : Nat → ClassId) (ad : Nat → Nat → Nat → Nat) (ns : List (Nat × Nat × Nat)) (M : Me) (t i n : Nat) (hn5 : n < 5) (hI : IsRows cy ad ns t i n) (g : Sg) (a1 : Int32) (a2 : Int32) (m2 : Sg)  (hf : f5_moveToLast n a1 a2 g = some m2) : Cv l yX5_moveToLast (.code yX5_moveToLast cX5_moveToLast 3 none :: tk_tb) { frames := 1, cells := 0, slots := 0, locals := 26 } D cy ad ns [.ref (ad t i 0), .int a1, .int a2] (uI M t i g) (uI M t i m2) := by
  refine Cv.of (by decide) (Nat.le_of_ble_eq_true rfl) ?_
  intro p e s m below meth c ls hE hW hl
  obtain ⟨hx, hb, hr, hml, hown, hts, hlk, hK⟩ := hE
  have hA : ∀ q : Nat, s.heap.size ≤ q → Aw ad ns s.heap.size q := fun q h => Or.inr h
  have hl : lv_has ls 3 [(0, .ref (ad t i 0)), (1, .int a1), (2, .int a2)] := hl
  unfold f5_moveToLast at hf
  refine lv_aload_n hx hb dX5_moveToLast_0 rfl (lv_at hl 0 rfl) ?_
  refine lv_iload_n hx hb dX5_moveToLast_1 rfl (lv_at hl 2 rfl) ?_
  obtain ⟨g2, hc1, hf⟩ := bd_some hf
  have hC3 := f5_takeOut_ok l D cy ad ns M t i n hn5 hI g a2 g2 hc1
  refine x_vv (n := 1) (As := [.int a2]) (rest := []) hx hb hml hts hown hK hW hA hC3 (hI.2 0 (x_o (by decide))) uI_o (hI.1 0 _) rfl rfl t_430 t_431 t_432 t_6 t_433 rfl (by decide +kernel) rfl rfl ⟨Nat.le_of_ble_eq_true rfl, Nat.le_of_ble_eq_true rfl⟩ hl.1 rfl (lv_room (Nat.le_of_ble_eq_true rfl)) dX5_moveToLast_2 ⟨(Nat.le_of_ble_eq_true rfl), (Nat.le_of_ble_eq_true rfl)⟩ (fun H locs hW => ?_)
  refine lv_aload_n hx hb dX5_moveToLast_5 rfl (lv_at hl 0 rfl) ?_
  refine lv_iload_n hx hb dX5_moveToLast_6 rfl (lv_at hl 1 rfl) ?_
  refine lv_iload_n hx hb dX5_moveToLast_7 rfl (lv_at hl 2 rfl) ?_
  obtain ⟨g5, hc4, hf⟩ := bd_some hf
  have hC6 := f5_append_ok l D cy ad ns M t i n hn5 hI g2 a1 a2 g5 hc4
  refine x_vv (n := 2) (As := [.int a1, .int a2]) (rest := []) hx hb hml hts hown hK hW hA hC6 (hI.2 0 (x_o (by decide))) uI_o (hI.1 0 _) rfl rfl t_434 t_435 t_436 t_6 t_437 rfl (by decide +kernel) rfl rfl ⟨Nat.le_of_ble_eq_true rfl, Nat.le_of_ble_eq_true rfl⟩ hl.1 rfl (lv_room (Nat.le_of_ble_eq_true rfl)) dX5_moveToLast_8 ⟨(Nat.le_of_ble_eq_true rfl), (Nat.le_of_ble_eq_true rfl)⟩ (fun H locs hW => ?_)
  exact x_vret hx hb hr hlk hK hW (congrArg (fun q => (uI M t i q)) (Option.some.inj hf)) dX5_moveToLast_11
def f5_moveFirst (n : Nat) (a1 : Int32) (a2 : Int32) (g : Sg) : Option Sg :=
  ((f5_keyAt n g a1 (0 : Int32)).bind (fun r2 => (if r2 = (-1 : Int32) then (some g) else ((f5_takeOut n r2 g).bind (fun g6 => ((f5_append n a2 r2 g6).bind (fun g9 => (some g9))))))))
set_option maxHeartbeats 4000000 in
set_option maxRecDepth 100000 in
theorem f5_moveFirst_ok (l : Launch) (D : va_G) (cy : Nat → ClassId) (ad : Nat → Nat → Nat → Nat) (ns : List (Nat × Nat × Nat)) (M : Me) (t i n : Nat) (hn5 : n < 5) (hI : IsRows cy ad ns t i n) (g : Sg) (a1 : Int32) (a2 : Int32) (m2 : Sg)  (hf : f5_moveFirst n a1 a2 g = some m2) : Cv l yX5_moveFirst (.code yX5_moveFirst cX5_moveFirst 4 none :: tk_tb) { frames := 1, cells := 0, slots := 0, locals := 26 } D cy ad ns [.ref (ad t i 0), .int a1, .int a2] (uI M t i g) (uI M t i m2) := by
  refine Cv.of (by decide) (Nat.le_of_ble_eq_true rfl) ?_
  intro p e s m below meth c ls hE hW hl
  obtain ⟨hx, hb, hr, hml, hown, hts, hlk, hK⟩ := hE
  have hA : ∀ q : Nat, s.heap.size ≤ q → Aw ad ns s.heap.size q := fun q h => Or.inr h
  have hl : lv_has ls 4 [(0, .ref (ad t i 0)), (1, .int a1), (2, .int a2)] := hl
  unfold f5_moveFirst at hf
  refine lv_aload_n hx hb dX5_moveFirst_0 rfl (lv_at hl 0 rfl) ?_
  refine lv_iload_n hx hb dX5_moveFirst_1 rfl (lv_at hl 1 rfl) ?_
  refine lv_iconst (v := 0) hx hb dX5_moveFirst_2 (by decide) ?_
  obtain ⟨r2, hc1, hf⟩ := bd_some hf
  have hC3 := f5_keyAt_ok l D cy ad ns M t i n hn5 hI g a1 (0 : Int32) r2 hc1
  refine x_vi (n := 2) (As := [.int a1, .int (0 : Int32)]) (rest := []) hx hb hml hts hown hK hW hA hC3 (hI.2 0 (x_o (by decide))) uI_o (hI.1 0 _) rfl rfl t_602 t_471 t_472 t_6 t_473 rfl (by decide +kernel) rfl rfl ⟨Nat.le_of_ble_eq_true rfl, Nat.le_of_ble_eq_true rfl⟩ hl.1 rfl (lv_room (Nat.le_of_ble_eq_true rfl)) dX5_moveFirst_3 ⟨(Nat.le_of_ble_eq_true rfl), (Nat.le_of_ble_eq_true rfl)⟩ (fun H locs hW => ?_)
  refine lv_istore_n (lv' := [(3, .int r2), (0, .ref (ad t i 0)), (1, .int a1), (2, .int a2)]) hx hb dX5_moveFirst_6 rfl hl (by decide) rfl (fun ls hl => ?_)
  refine lv_iload_n hx hb dX5_moveFirst_7 rfl (lv_at hl 0 rfl) ?_
  refine lv_iconst (v := -1) hx hb dX5_moveFirst_8 (by decide) ?_
  refine lv_icmp_eq (tgt := 23) hx hb dX5_moveFirst_9 (by decide) (fun c4 => ?_) (fun c4 => ?_)
  · replace hf := (if_pos c4).symm.trans hf
    exact x_vret hx hb hr hlk hK hW (congrArg (fun q => (uI M t i q)) (Option.some.inj hf)) dX5_moveFirst_23
  · replace hf := (if_neg c4).symm.trans hf
    refine lv_aload_n hx hb dX5_moveFirst_12 rfl (lv_at hl 1 rfl) ?_
    refine lv_iload_n hx hb dX5_moveFirst_13 rfl (lv_at hl 0 rfl) ?_
    obtain ⟨g6, hc5, hf⟩ := bd_some hf
    have hC7 := f5_takeOut_ok l D cy ad ns M t i n hn5 hI g r2 g6 hc5
    refine x_vv (n := 1) (As := [.int r2]) (rest := []) hx hb hml hts hown hK hW hA hC7 (hI.2 0 (x_o (by decide))) uI_o (hI.1 0 _) rfl rfl t_430 t_431 t_432 t_6 t_433 rfl (by decide +kernel) rfl rfl ⟨Nat.le_of_ble_eq_true rfl, Nat.le_of_ble_eq_true rfl⟩ hl.1 rfl (lv_room (Nat.le_of_ble_eq_true rfl)) dX5_moveFirst_14 ⟨(Nat.le_of_ble_eq_true rfl), (Nat.le_of_ble_eq_true rfl)⟩ (fun H locs hW => ?_)
    refine lv_aload_n hx hb dX5_moveFirst_17 rfl (lv_at hl 1 rfl) ?_
    refine lv_iload_n hx hb dX5_moveFirst_18 rfl (lv_at hl 3 rfl) ?_
    refine lv_iload_n hx hb dX5_moveFirst_19 rfl (lv_at hl 0 rfl) ?_
    obtain ⟨g9, hc8, hf⟩ := bd_some hf
    have hC10 := f5_append_ok l D cy ad ns M t i n hn5 hI g6 a2 r2 g9 hc8
    refine x_vv (n := 2) (As := [.int a2, .int r2]) (rest := []) hx hb hml hts hown hK hW hA hC10 (hI.2 0 (x_o (by decide))) uI_o (hI.1 0 _) rfl rfl t_434 t_435 t_436 t_6 t_437 rfl (by decide +kernel) rfl rfl ⟨Nat.le_of_ble_eq_true rfl, Nat.le_of_ble_eq_true rfl⟩ hl.1 rfl (lv_room (Nat.le_of_ble_eq_true rfl)) dX5_moveFirst_20 ⟨(Nat.le_of_ble_eq_true rfl), (Nat.le_of_ble_eq_true rfl)⟩ (fun H locs hW => ?_)
    exact x_vret hx hb hr hlk hK hW (congrArg (fun q => (uI M t i q)) (Option.some.inj hf)) dX5_moveFirst_23
def f5_dropFirst (n : Nat) (a1 : Int32) (g : Sg) : Option Sg :=
  ((f5_keyAt n g a1 (0 : Int32)).bind (fun r2 => (if r2 = (-1 : Int32) then (some g) else ((f5_takeOut n r2 g).bind (fun g6 => (some g6))))))
set_option maxHeartbeats 4000000 in
set_option maxRecDepth 100000 in
theorem f5_dropFirst_ok (l : Launch) (D : va_G) (cy : Nat → ClassId) (ad : Nat → Nat → Nat → Nat) (ns : List (Nat × Nat × Nat)) (M : Me) (t i n : Nat) (hn5 : n < 5) (hI : IsRows cy ad ns t i n) (g : Sg) (a1 : Int32) (m2 : Sg)  (hf : f5_dropFirst n a1 g = some m2) : Cv l yX5_dropFirst (.code yX5_dropFirst cX5_dropFirst 3 none :: tk_tb) { frames := 1, cells := 0, slots := 0, locals := 26 } D cy ad ns [.ref (ad t i 0), .int a1] (uI M t i g) (uI M t i m2) := by
  refine Cv.of (by decide) (Nat.le_of_ble_eq_true rfl) ?_
  intro p e s m below meth c ls hE hW hl
  obtain ⟨hx, hb, hr, hml, hown, hts, hlk, hK⟩ := hE
  have hA : ∀ q : Nat, s.heap.size ≤ q → Aw ad ns s.heap.size q := fun q h => Or.inr h
  have hl : lv_has ls 3 [(0, .ref (ad t i 0)), (1, .int a1)] := hl
  unfold f5_dropFirst at hf
  refine lv_aload_n hx hb dX5_dropFirst_0 rfl (lv_at hl 0 rfl) ?_
  refine lv_iload_n hx hb dX5_dropFirst_1 rfl (lv_at hl 1 rfl) ?_
  refine lv_iconst (v := 0) hx hb dX5_dropFirst_2 (by decide) ?_
  obtain ⟨r2, hc1, hf⟩ := bd_some hf
  have hC3 := f5_keyAt_ok l D cy ad ns M t i n hn5 hI g a1 (0 : Int32) r2 hc1
  refine x_vi (n := 2) (As := [.int a1, .int (0 : Int32)]) (rest := []) hx hb hml hts hown hK hW hA hC3 (hI.2 0 (x_o (by decide))) uI_o (hI.1 0 _) rfl rfl t_602 t_471 t_472 t_6 t_473 rfl (by decide +kernel) rfl rfl ⟨Nat.le_of_ble_eq_true rfl, Nat.le_of_ble_eq_true rfl⟩ hl.1 rfl (lv_room (Nat.le_of_ble_eq_true rfl)) dX5_dropFirst_3 ⟨(Nat.le_of_ble_eq_true rfl), (Nat.le_of_ble_eq_true rfl)⟩ (fun H locs hW => ?_)
  refine lv_istore_n (lv' := [(2, .int r2), (0, .ref (ad t i 0)), (1, .int a1)]) hx hb dX5_dropFirst_6 rfl hl (by decide) rfl (fun ls hl => ?_)
  refine lv_iload_n hx hb dX5_dropFirst_7 rfl (lv_at hl 0 rfl) ?_
  refine lv_iconst (v := -1) hx hb dX5_dropFirst_8 (by decide) ?_
  refine lv_icmp_eq (tgt := 17) hx hb dX5_dropFirst_9 (by decide) (fun c4 => ?_) (fun c4 => ?_)
  · replace hf := (if_pos c4).symm.trans hf
    exact x_vret hx hb hr hlk hK hW (congrArg (fun q => (uI M t i q)) (Option.some.inj hf)) dX5_dropFirst_17
  · replace hf := (if_neg c4).symm.trans hf
    refine lv_aload_n hx hb dX5_dropFirst_12 rfl (lv_at hl 1 rfl) ?_
    refine lv_iload_n hx hb dX5_dropFirst_13 rfl (lv_at hl 0 rfl) ?_
    obtain ⟨g6, hc5, hf⟩ := bd_some hf
    have hC7 := f5_takeOut_ok l D cy ad ns M t i n hn5 hI g r2 g6 hc5
    refine x_vv (n := 1) (As := [.int r2]) (rest := []) hx hb hml hts hown hK hW hA hC7 (hI.2 0 (x_o (by decide))) uI_o (hI.1 0 _) rfl rfl t_430 t_431 t_432 t_6 t_433 rfl (by decide +kernel) rfl rfl ⟨Nat.le_of_ble_eq_true rfl, Nat.le_of_ble_eq_true rfl⟩ hl.1 rfl (lv_room (Nat.le_of_ble_eq_true rfl)) dX5_dropFirst_14 ⟨(Nat.le_of_ble_eq_true rfl), (Nat.le_of_ble_eq_true rfl)⟩ (fun H locs hW => ?_)
    exact x_vret hx hb hr hlk hK hW (congrArg (fun q => (uI M t i q)) (Option.some.inj hf)) dX5_dropFirst_17
def f5_appearancesOf_b16 (n : Nat) (g : Sg) (rec4 : Int32 → Int32 → Int32 → Option Int32) (rec16 : Int32 → Int32 → Int32 → Int32 → Option Int32) (w1 : Int32) (w2 : Int32) (w3 : Int32) (w4 : Int32) : Option Int32 :=
  (rd n (g 2) w3 (fun v3 => (if v3 ≤ w4 then (rec4 w1 w2 (w3 + (1 : Int32))) else (ck n w3 (rd 100 (g ((w3).toNatClampNeg + 6)) w4 (fun v7 => (if v7 = w1 then (rec16 w1 (w2 + (1 : Int32)) w3 (w4 + (1 : Int32))) else (rec16 w1 w2 w3 (w4 + (1 : Int32))))))))))
def f5_appearancesOf_l16 (n : Nat) (g : Sg) (rec4 : Int32 → Int32 → Int32 → Option Int32) : Nat → Int32 → Int32 → Int32 → Int32 → Option Int32
  | 0 => fun _ _ _ _ => none
  | k + 1 => f5_appearancesOf_b16 n g rec4 (f5_appearancesOf_l16 n g rec4 k)
def f5_appearancesOf_b4 (n : Nat) (g : Sg) (rec4 : Int32 → Int32 → Int32 → Option Int32) (w1 : Int32) (w2 : Int32) (w3 : Int32) : Option Int32 :=
  (if (Int32.ofNat n) ≤ w3 then (some w2) else (f5_appearancesOf_l16 n g rec4 NF w1 w2 w3 (0 : Int32)))
def f5_appearancesOf_l4 (n : Nat) (g : Sg) : Nat → Int32 → Int32 → Int32 → Option Int32
  | 0 => fun _ _ _ => none
  | k + 1 => f5_appearancesOf_b4 n g (f5_appearancesOf_l4 n g k)
def f5_appearancesOf (n : Nat) (g : Sg) (a1 : Int32) : Option Int32 :=
  (f5_appearancesOf_l4 n g NF a1 (0 : Int32) (0 : Int32))
set_option maxHeartbeats 4000000 in
set_option maxRecDepth 100000 in
theorem f5_appearancesOf_ok (l : Launch) (D : va_G) (cy : Nat → ClassId) (ad : Nat → Nat → Nat → Nat) (ns : List (Nat × Nat × Nat)) (M : Me) (t i n : Nat) (hn5 : n < 5) (hI : IsRows cy ad ns t i n) (g : Sg) (a1 : Int32) (r : Int32)  (hf : f5_appearancesOf n g a1 = some r) : Ci l yX5_appearancesOf (.code yX5_appearancesOf cX5_appearancesOf 5 (some .int) :: tk_tb) { frames := 0, cells := 0, slots := 0, locals := 0 } D cy ad ns [.ref (ad t i 0), .int a1] (uI M t i g) r (uI M t i g) := by
  refine Ci.of (by decide) (Nat.le_of_ble_eq_true rfl) ?_
  intro p e s m below meth c ls hE hW hl
  obtain ⟨hx, hb, hr, hml, hown, hts, hlk, hK⟩ := hE
  have hA : ∀ q : Nat, s.heap.size ≤ q → Aw ad ns s.heap.size q := fun q h => Or.inr h
  have hl : lv_has ls 5 [(0, .ref (ad t i 0)), (1, .int a1)] := hl
  unfold f5_appearancesOf at hf
  refine lv_iconst (v := 0) hx hb dX5_appearancesOf_0 (by decide) ?_
  refine lv_istore_n (lv' := [(2, .int (0 : Int32)), (0, .ref (ad t i 0)), (1, .int a1)]) hx hb dX5_appearancesOf_1 rfl hl (by decide) rfl (fun ls hl => ?_)
  refine lv_iconst (v := 0) hx hb dX5_appearancesOf_2 (by decide) ?_
  refine lv_istore_n (lv' := [(3, .int (0 : Int32)), (2, .int (0 : Int32)), (0, .ref (ad t i 0)), (1, .int a1)]) hx hb dX5_appearancesOf_3 rfl hl (by decide) rfl (fun ls hl => ?_)
  have L4 : ∀ (k : Nat) (w1 : Int32) (w2 : Int32) (w3 : Int32) (H : Heap) (locs : List Loc) (ls : Array Slot), f5_appearancesOf_l4 n g k w1 w2 w3 = some r → Wl D cy ad ns (Aw ad ns s.heap.size) s.heap (uI M t i g) H locs → lv_has ls 5 [(0, .ref (ad t i 0)), (1, .int w1), (2, .int w2), (3, .int w3)] → W p l e { frames := 0, cells := 0, slots := 0, locals := 0 } s m ([.ref (ad t i 0), .int a1] : List Value).toArray below meth c H locs 0 0 (QI below D cy ad ns [.ref (ad t i 0), .int a1] s r (uI M t i g)) (F0 m 4 ls []) := by
    intro k
    induction k with
    | zero => intro w1 w2 w3 H locs ls hf; exact absurd hf (by simp [f5_appearancesOf_l4])
    | succ k4 ih4 =>
      intro w1 w2 w3 H locs ls hf hW hl
      have hf : f5_appearancesOf_b4 n g (f5_appearancesOf_l4 n g k4) w1 w2 w3 = some r := hf
      unfold f5_appearancesOf_b4 at hf
      refine lv_iload_n hx hb dX5_appearancesOf_4 rfl (lv_at hl 3 rfl) ?_
      refine lv_aload_n hx hb dX5_appearancesOf_5 rfl (lv_at hl 0 rfl) ?_
      refine x_get hx hb hts hown hK hW (hI.2 0 (x_o (by decide))) uI_o (hI.1 0 _) rfl inX5 0 (by decide) t_95 rfl dX5_appearancesOf_6 ?_
      refine x_alen (v := (Int32.ofNat n)) hx hb hK hW (hI.2 1 (x_o (by decide))) uI_o (hI.1 1 _) (by decide) rfl dX5_appearancesOf_9 ?_
      refine lv_icmp_ge (tgt := 55) hx hb dX5_appearancesOf_10 (by decide) (fun c1 => ?_) (fun c1 => ?_)
      · replace hf := (if_pos c1).symm.trans hf
        refine lv_iload_n hx hb dX5_appearancesOf_55 rfl (lv_at hl 2 rfl) ?_
        exact x_iret hx hb hr hlk hK hW (Option.some.inj hf) rfl dX5_appearancesOf_56
      · replace hf := (if_neg c1).symm.trans hf
        refine lv_iconst (v := 0) hx hb dX5_appearancesOf_13 (by decide) ?_
        refine lv_istore (lv' := [(4, .int (0 : Int32)), (0, .ref (ad t i 0)), (1, .int w1), (2, .int w2), (3, .int w3)]) hx hb dX5_appearancesOf_14 hl (by decide) rfl (fun ls hl => ?_)
        have L16 : ∀ (k : Nat) (w1 : Int32) (w2 : Int32) (w3 : Int32) (w4 : Int32) (H : Heap) (locs : List Loc) (ls : Array Slot), f5_appearancesOf_l16 n g (f5_appearancesOf_l4 n g k4) k w1 w2 w3 w4 = some r → Wl D cy ad ns (Aw ad ns s.heap.size) s.heap (uI M t i g) H locs → lv_has ls 5 [(0, .ref (ad t i 0)), (1, .int w1), (2, .int w2), (3, .int w3), (4, .int w4)] → W p l e { frames := 0, cells := 0, slots := 0, locals := 0 } s m ([.ref (ad t i 0), .int a1] : List Value).toArray below meth c H locs 0 0 (QI below D cy ad ns [.ref (ad t i 0), .int a1] s r (uI M t i g)) (F0 m 16 ls []) := by
          intro k
          induction k with
          | zero => intro w1 w2 w3 w4 H locs ls hf; exact absurd hf (by simp [f5_appearancesOf_l16])
          | succ k16 ih16 =>
            intro w1 w2 w3 w4 H locs ls hf hW hl
            have hf : f5_appearancesOf_b16 n g (f5_appearancesOf_l4 n g k4) (f5_appearancesOf_l16 n g (f5_appearancesOf_l4 n g k4) k16) w1 w2 w3 w4 = some r := hf
            unfold f5_appearancesOf_b16 at hf
            refine lv_iload hx hb dX5_appearancesOf_16 (lv_at hl 4 rfl) ?_
            refine lv_aload_n hx hb dX5_appearancesOf_18 rfl (lv_at hl 0 rfl) ?_
            refine x_get hx hb hts hown hK hW (hI.2 0 (x_o (by decide))) uI_o (hI.1 0 _) rfl inX5 1 (by decide) t_97 rfl dX5_appearancesOf_19 ?_
            refine lv_iload_n hx hb dX5_appearancesOf_22 rfl (lv_at hl 3 rfl) ?_
            obtain ⟨hi2, hf⟩ := rd_some hf
            refine x_iald hx hb hK hW (hI.2 2 (x_o (by decide))) uI_o (hI.1 2 _) hi2 dX5_appearancesOf_23 ?_
            generalize g 2 (w3).toNatClampNeg = v3 at hf ⊢
            refine lv_icmp_ge (tgt := 49) hx hb dX5_appearancesOf_24 (by decide) (fun c4 => ?_) (fun c4 => ?_)
            · replace hf := (if_pos c4).symm.trans hf
              refine lv_iinc (v := (w3 + (1 : Int32))) (lv' := [(3, .int (w3 + (1 : Int32))), (0, .ref (ad t i 0)), (1, .int w1), (2, .int w2), (4, .int w4)]) hx hb dX5_appearancesOf_49 hl (k := 3) rfl (by first | rfl | decide) (by decide) rfl (fun ls hl => ?_)
              refine lv_goto (tgt := 4) hx hb dX5_appearancesOf_52 (by decide) ?_
              exact ih4 _ _ _ _ _ _ hf hW (lv_sub hl [1, 2, 3, 0] rfl)
            · replace hf := (if_neg c4).symm.trans hf
              refine lv_aload_n hx hb dX5_appearancesOf_27 rfl (lv_at hl 0 rfl) ?_
              refine x_get hx hb hts hown hK hW (hI.2 0 (x_o (by decide))) uI_o (hI.1 0 _) rfl inX5 0 (by decide) t_95 rfl dX5_appearancesOf_28 ?_
              refine lv_iload_n hx hb dX5_appearancesOf_31 rfl (lv_at hl 3 rfl) ?_
              obtain ⟨hi5, hf⟩ := ck_some hf
              refine x_aald hx hb hK hW (hI.2 1 (x_o (by decide))) uI_o (hI.1 1 _) hi5 dX5_appearancesOf_32 ?_
              refine lv_iload hx hb dX5_appearancesOf_33 (lv_at hl 4 rfl) ?_
              obtain ⟨hi6, hf⟩ := rd_some hf
              refine x_iald hx hb hK hW (hI.2 _ (x_lt2 (vp_lt hi5))) uI_o (hI.1 _ _) hi6 dX5_appearancesOf_35 ?_
              generalize g ((w3).toNatClampNeg + 6) (w4).toNatClampNeg = v7 at hf ⊢
              refine lv_iload_n hx hb dX5_appearancesOf_36 rfl (lv_at hl 1 rfl) ?_
              refine lv_icmp_ne (tgt := 43) hx hb dX5_appearancesOf_37 (by decide) (fun c8 => ?_) (fun c8 => ?_)
              · replace hf := (if_neg c8).symm.trans hf
                refine lv_iinc (v := (w4 + (1 : Int32))) (lv' := [(4, .int (w4 + (1 : Int32))), (0, .ref (ad t i 0)), (1, .int w1), (2, .int w2), (3, .int w3)]) hx hb dX5_appearancesOf_43 hl (k := 4) rfl (by first | rfl | decide) (by decide) rfl (fun ls hl => ?_)
                refine lv_goto (tgt := 16) hx hb dX5_appearancesOf_46 (by decide) ?_
                exact ih16 _ _ _ _ _ _ _ hf hW (lv_sub hl [1, 2, 3, 4, 0] rfl)
              · replace hf := (if_pos c8).symm.trans hf
                refine lv_iinc (v := (w2 + (1 : Int32))) (lv' := [(2, .int (w2 + (1 : Int32))), (0, .ref (ad t i 0)), (1, .int w1), (3, .int w3), (4, .int w4)]) hx hb dX5_appearancesOf_40 hl (k := 2) rfl (by first | rfl | decide) (by decide) rfl (fun ls hl => ?_)
                refine lv_iinc (v := (w4 + (1 : Int32))) (lv' := [(4, .int (w4 + (1 : Int32))), (2, .int (w2 + (1 : Int32))), (0, .ref (ad t i 0)), (1, .int w1), (3, .int w3)]) hx hb dX5_appearancesOf_43 hl (k := 4) rfl (by first | rfl | decide) (by decide) rfl (fun ls hl => ?_)
                refine lv_goto (tgt := 16) hx hb dX5_appearancesOf_46 (by decide) ?_
                exact ih16 _ _ _ _ _ _ _ hf hW (lv_sub hl [2, 3, 1, 4, 0] rfl)
        exact L16 NF _ _ _ _ _ _ _ hf hW (lv_sub hl [1, 2, 3, 4, 0] rfl)
  exact L4 NF _ _ _ _ _ _ hf hW (lv_sub hl [2, 3, 1, 0] rfl)
def f5_countedUnits_b4 (n : Nat) (g : Sg) (rec4 : Int32 → Int32 → Int32 → Option Int32) (w1 : Int32) (w2 : Int32) (w3 : Int32) : Option Int32 :=
  (rd n (g 2) w1 (fun v2 => (if v2 ≤ w3 then (some w2) else (ck n w1 (rd 100 (g ((w1).toNatClampNeg + 6)) w3 (fun v6 => (rd 100 (g 5) v6 (fun v8 => (rec4 w1 (w2 + v8) (w3 + (1 : Int32)))))))))))
def f5_countedUnits_l4 (n : Nat) (g : Sg) : Nat → Int32 → Int32 → Int32 → Option Int32
  | 0 => fun _ _ _ => none
  | k + 1 => f5_countedUnits_b4 n g (f5_countedUnits_l4 n g k)
def f5_countedUnits (n : Nat) (g : Sg) (a1 : Int32) : Option Int32 :=
  (f5_countedUnits_l4 n g NF a1 (0 : Int32) (0 : Int32))
set_option maxHeartbeats 4000000 in
set_option maxRecDepth 100000 in
theorem f5_countedUnits_ok (l : Launch) (D : va_G) (cy : Nat → ClassId) (ad : Nat → Nat → Nat → Nat) (ns : List (Nat × Nat × Nat)) (M : Me) (t i n : Nat) (hn5 : n < 5) (hI : IsRows cy ad ns t i n) (g : Sg) (a1 : Int32) (r : Int32)  (hf : f5_countedUnits n g a1 = some r) : Ci l yX5_countedUnits (.code yX5_countedUnits cX5_countedUnits 4 (some .int) :: tk_tb) { frames := 0, cells := 0, slots := 0, locals := 0 } D cy ad ns [.ref (ad t i 0), .int a1] (uI M t i g) r (uI M t i g) := by
  refine Ci.of (by decide) (Nat.le_of_ble_eq_true rfl) ?_
  intro p e s m below meth c ls hE hW hl
  obtain ⟨hx, hb, hr, hml, hown, hts, hlk, hK⟩ := hE
  have hA : ∀ q : Nat, s.heap.size ≤ q → Aw ad ns s.heap.size q := fun q h => Or.inr h
  have hl : lv_has ls 4 [(0, .ref (ad t i 0)), (1, .int a1)] := hl
  unfold f5_countedUnits at hf
  refine lv_iconst (v := 0) hx hb dX5_countedUnits_0 (by decide) ?_
  refine lv_istore_n (lv' := [(2, .int (0 : Int32)), (0, .ref (ad t i 0)), (1, .int a1)]) hx hb dX5_countedUnits_1 rfl hl (by decide) rfl (fun ls hl => ?_)
  refine lv_iconst (v := 0) hx hb dX5_countedUnits_2 (by decide) ?_
  refine lv_istore_n (lv' := [(3, .int (0 : Int32)), (2, .int (0 : Int32)), (0, .ref (ad t i 0)), (1, .int a1)]) hx hb dX5_countedUnits_3 rfl hl (by decide) rfl (fun ls hl => ?_)
  have L4 : ∀ (k : Nat) (w1 : Int32) (w2 : Int32) (w3 : Int32) (H : Heap) (locs : List Loc) (ls : Array Slot), f5_countedUnits_l4 n g k w1 w2 w3 = some r → Wl D cy ad ns (Aw ad ns s.heap.size) s.heap (uI M t i g) H locs → lv_has ls 4 [(0, .ref (ad t i 0)), (1, .int w1), (2, .int w2), (3, .int w3)] → W p l e { frames := 0, cells := 0, slots := 0, locals := 0 } s m ([.ref (ad t i 0), .int a1] : List Value).toArray below meth c H locs 0 0 (QI below D cy ad ns [.ref (ad t i 0), .int a1] s r (uI M t i g)) (F0 m 4 ls []) := by
    intro k
    induction k with
    | zero => intro w1 w2 w3 H locs ls hf; exact absurd hf (by simp [f5_countedUnits_l4])
    | succ k4 ih4 =>
      intro w1 w2 w3 H locs ls hf hW hl
      have hf : f5_countedUnits_b4 n g (f5_countedUnits_l4 n g k4) w1 w2 w3 = some r := hf
      unfold f5_countedUnits_b4 at hf
      refine lv_iload_n hx hb dX5_countedUnits_4 rfl (lv_at hl 3 rfl) ?_
      refine lv_aload_n hx hb dX5_countedUnits_5 rfl (lv_at hl 0 rfl) ?_
      refine x_get hx hb hts hown hK hW (hI.2 0 (x_o (by decide))) uI_o (hI.1 0 _) rfl inX5 1 (by decide) t_97 rfl dX5_countedUnits_6 ?_
      refine lv_iload_n hx hb dX5_countedUnits_9 rfl (lv_at hl 1 rfl) ?_
      obtain ⟨hi1, hf⟩ := rd_some hf
      refine x_iald hx hb hK hW (hI.2 2 (x_o (by decide))) uI_o (hI.1 2 _) hi1 dX5_countedUnits_10 ?_
      generalize g 2 (w1).toNatClampNeg = v2 at hf ⊢
      refine lv_icmp_ge (tgt := 36) hx hb dX5_countedUnits_11 (by decide) (fun c3 => ?_) (fun c3 => ?_)
      · replace hf := (if_pos c3).symm.trans hf
        refine lv_iload_n hx hb dX5_countedUnits_36 rfl (lv_at hl 2 rfl) ?_
        exact x_iret hx hb hr hlk hK hW (Option.some.inj hf) rfl dX5_countedUnits_37
      · replace hf := (if_neg c3).symm.trans hf
        refine lv_iload_n hx hb dX5_countedUnits_14 rfl (lv_at hl 2 rfl) ?_
        refine lv_aload_n hx hb dX5_countedUnits_15 rfl (lv_at hl 0 rfl) ?_
        refine x_get hx hb hts hown hK hW (hI.2 0 (x_o (by decide))) uI_o (hI.1 0 _) rfl inX5 4 (by decide) t_108 rfl dX5_countedUnits_16 ?_
        refine lv_aload_n hx hb dX5_countedUnits_19 rfl (lv_at hl 0 rfl) ?_
        refine x_get hx hb hts hown hK hW (hI.2 0 (x_o (by decide))) uI_o (hI.1 0 _) rfl inX5 0 (by decide) t_95 rfl dX5_countedUnits_20 ?_
        refine lv_iload_n hx hb dX5_countedUnits_23 rfl (lv_at hl 1 rfl) ?_
        obtain ⟨hi4, hf⟩ := ck_some hf
        refine x_aald hx hb hK hW (hI.2 1 (x_o (by decide))) uI_o (hI.1 1 _) hi4 dX5_countedUnits_24 ?_
        refine lv_iload_n hx hb dX5_countedUnits_25 rfl (lv_at hl 3 rfl) ?_
        obtain ⟨hi5, hf⟩ := rd_some hf
        refine x_iald hx hb hK hW (hI.2 _ (x_lt2 (vp_lt hi4))) uI_o (hI.1 _ _) hi5 dX5_countedUnits_26 ?_
        generalize g ((w1).toNatClampNeg + 6) (w3).toNatClampNeg = v6 at hf ⊢
        obtain ⟨hi7, hf⟩ := rd_some hf
        refine x_iald hx hb hK hW (hI.2 5 (x_o (by decide))) uI_o (hI.1 5 _) hi7 dX5_countedUnits_27 ?_
        generalize g 5 (v6).toNatClampNeg = v8 at hf ⊢
        refine lv_iadd hx hb dX5_countedUnits_28 ?_
        refine lv_istore_n (lv' := [(2, .int (w2 + v8)), (0, .ref (ad t i 0)), (1, .int w1), (3, .int w3)]) hx hb dX5_countedUnits_29 rfl hl (by decide) rfl (fun ls hl => ?_)
        refine lv_iinc (v := (w3 + (1 : Int32))) (lv' := [(3, .int (w3 + (1 : Int32))), (2, .int (w2 + v8)), (0, .ref (ad t i 0)), (1, .int w1)]) hx hb dX5_countedUnits_30 hl (k := 3) rfl (by first | rfl | decide) (by decide) rfl (fun ls hl => ?_)
        refine lv_goto (tgt := 4) hx hb dX5_countedUnits_33 (by decide) ?_
        exact ih4 _ _ _ _ _ _ hf hW (lv_sub hl [2, 3, 1, 0] rfl)
  exact L4 NF _ _ _ _ _ _ hf hW (lv_sub hl [2, 3, 1, 0] rfl)
def f5_copyFrom_j69 (n : Nat) (h : Sg) (g : Sg) : Option Sg :=
  (st (va_up g 4 (va_cpy (h 4) (g 4) 0 0 100)) (fun g14 => (st (va_up g14 5 (va_cpy (h 5) (g14 5) 0 0 100)) (fun g15 => (some g15)))))
def f5_copyFrom_b2 (n : Nat) (h : Sg) (rec2 : Int32 → Sg → Option Sg) (w2 : Int32) (g : Sg) : Option Sg :=
  (if (Int32.ofNat n) ≤ w2 then (f5_copyFrom_j69 n h g) else (if (Int32.ofNat n) ≤ w2 then (f5_copyFrom_j69 n h g) else (ck n w2 (ck n w2 (st (va_up g ((w2).toNatClampNeg + 6) (va_cpy (h ((w2).toNatClampNeg + 6)) (g ((w2).toNatClampNeg + 6)) 0 0 100)) (fun g5 => (rd n (h 2) w2 (fun v7 => (wr n w2 (va_up g5 2 (upd (g5 2) (w2).toNatClampNeg v7)) (fun g9 => (rd n (h 3) w2 (fun v11 => (wr n w2 (va_up g9 3 (upd (g9 3) (w2).toNatClampNeg v11)) (fun g13 => (rec2 (w2 + (1 : Int32)) g13)))))))))))))))
def f5_copyFrom_l2 (n : Nat) (h : Sg) : Nat → Int32 → Sg → Option Sg
  | 0 => fun _ _ => none
  | k + 1 => f5_copyFrom_b2 n h (f5_copyFrom_l2 n h k)
def f5_copyFrom (n : Nat) (h : Sg) (g : Sg) : Option Sg :=
  (f5_copyFrom_l2 n h NF (0 : Int32) g)
set_option maxHeartbeats 4000000 in
set_option maxRecDepth 100000 in
theorem f5_copyFrom_ok (l : Launch) (D : va_G) (cy : Nat → ClassId) (ad : Nat → Nat → Nat → Nat) (ns : List (Nat × Nat × Nat)) (M : Me) (t i n : Nat) (hn5 : n < 5) (hI : IsRows cy ad ns t i n) (u : Nat) (hne : u ≠ t) (hI2 : IsRows cy ad ns u i n) (h : Sg) (hO : M u i = h) (g : Sg) (m2 : Sg)  (hf : f5_copyFrom n h g = some m2) : Cv l yX5_copyFrom (.code yX5_copyFrom cX5_copyFrom 3 none :: tk_tb) { frames := 1, cells := 0, slots := 0, locals := 26 } D cy ad ns [.ref (ad t i 0), .ref (ad u i 0)] (uI M t i g) (uI M t i m2) := by
  refine Cv.of (by decide) (Nat.le_of_ble_eq_true rfl) ?_
  intro p e s m below meth c ls hE hW hl
  obtain ⟨hx, hb, hr, hml, hown, hts, hlk, hK⟩ := hE
  have hA : ∀ q : Nat, s.heap.size ≤ q → Aw ad ns s.heap.size q := fun q h => Or.inr h
  have hl : lv_has ls 3 [(0, .ref (ad t i 0)), (1, .ref (ad u i 0))] := hl
  unfold f5_copyFrom at hf
  have J69 : ∀ (g : Sg) (H : Heap) (locs : List Loc) (ls : Array Slot), f5_copyFrom_j69 n h g = some m2 → Wl D cy ad ns (Aw ad ns s.heap.size) s.heap (uI M t i g) H locs → lv_has ls 3 [(0, .ref (ad t i 0)), (1, .ref (ad u i 0))] → W p l e { frames := 1, cells := 0, slots := 0, locals := 26 } s m ([.ref (ad t i 0), .ref (ad u i 0)] : List Value).toArray below meth c H locs 0 0 (QV below D cy ad ns [.ref (ad t i 0), .ref (ad u i 0)] s (uI M t i m2)) (F0 m 69 ls []) := by
    intro g H locs ls hf hW hl
    unfold f5_copyFrom_j69 at hf
    refine lv_aload_n hx hb dX5_copyFrom_69 rfl (lv_at hl 1 rfl) ?_
    refine x_get hx hb hts hown hK hW (hI2.2 0 (x_o (by decide))) (uI_oth hne hO) (hI2.1 0 _) rfl inX5 3 (by decide) t_103 rfl dX5_copyFrom_70 ?_
    refine lv_iconst (v := 0) hx hb dX5_copyFrom_73 (by decide) ?_
    refine lv_aload_n hx hb dX5_copyFrom_74 rfl (lv_at hl 0 rfl) ?_
    refine x_get hx hb hts hown hK hW (hI.2 0 (x_o (by decide))) uI_o (hI.1 0 _) rfl inX5 3 (by decide) t_103 rfl dX5_copyFrom_75 ?_
    refine lv_iconst (v := 0) hx hb dX5_copyFrom_78 (by decide) ?_
    refine lv_bipush (v := 100) hx hb dX5_copyFrom_79 (by decide) ?_
    replace hf := st_some hf
    refine x_copy (n := 100) hx hb (hml.trans hl.1.symm) hts hown hK hW (hI2.2 4 (x_o (by decide))) (uI_oth hne hO) (hI2.1 4 _) (hI.2 4 (x_o (by decide))) uI_o (fun _ => (hI.1 4 _)) rfl (by decide) (Nat.le_of_ble_eq_true rfl) (Nat.le_of_ble_eq_true rfl) uC_leaf t_689 (Nat.le_of_ble_eq_true rfl) (Nat.le_of_ble_eq_true rfl) dX5_copyFrom_81 (fun H locs hW => ?_)
    generalize (va_up g 4 (va_cpy (h 4) (g 4) 0 0 100)) = g14 at hf hW
    refine lv_aload_n hx hb dX5_copyFrom_84 rfl (lv_at hl 1 rfl) ?_
    refine x_get hx hb hts hown hK hW (hI2.2 0 (x_o (by decide))) (uI_oth hne hO) (hI2.1 0 _) rfl inX5 4 (by decide) t_108 rfl dX5_copyFrom_85 ?_
    refine lv_iconst (v := 0) hx hb dX5_copyFrom_88 (by decide) ?_
    refine lv_aload_n hx hb dX5_copyFrom_89 rfl (lv_at hl 0 rfl) ?_
    refine x_get hx hb hts hown hK hW (hI.2 0 (x_o (by decide))) uI_o (hI.1 0 _) rfl inX5 4 (by decide) t_108 rfl dX5_copyFrom_90 ?_
    refine lv_iconst (v := 0) hx hb dX5_copyFrom_93 (by decide) ?_
    refine lv_bipush (v := 100) hx hb dX5_copyFrom_94 (by decide) ?_
    replace hf := st_some hf
    refine x_copy (n := 100) hx hb (hml.trans hl.1.symm) hts hown hK hW (hI2.2 5 (x_o (by decide))) (uI_oth hne hO) (hI2.1 5 _) (hI.2 5 (x_o (by decide))) uI_o (fun _ => (hI.1 5 _)) rfl (by decide) (Nat.le_of_ble_eq_true rfl) (Nat.le_of_ble_eq_true rfl) uC_leaf t_689 (Nat.le_of_ble_eq_true rfl) (Nat.le_of_ble_eq_true rfl) dX5_copyFrom_96 (fun H locs hW => ?_)
    generalize (va_up g14 5 (va_cpy (h 5) (g14 5) 0 0 100)) = g15 at hf hW
    exact x_vret hx hb hr hlk hK hW (congrArg (fun q => (uI M t i q)) (Option.some.inj hf)) dX5_copyFrom_99
  refine lv_iconst (v := 0) hx hb dX5_copyFrom_0 (by decide) ?_
  refine lv_istore_n (lv' := [(2, .int (0 : Int32)), (0, .ref (ad t i 0)), (1, .ref (ad u i 0))]) hx hb dX5_copyFrom_1 rfl hl (by decide) rfl (fun ls hl => ?_)
  have L2 : ∀ (k : Nat) (w2 : Int32) (g : Sg) (H : Heap) (locs : List Loc) (ls : Array Slot), f5_copyFrom_l2 n h k w2 g = some m2 → Wl D cy ad ns (Aw ad ns s.heap.size) s.heap (uI M t i g) H locs → lv_has ls 3 [(0, .ref (ad t i 0)), (1, .ref (ad u i 0)), (2, .int w2)] → W p l e { frames := 1, cells := 0, slots := 0, locals := 26 } s m ([.ref (ad t i 0), .ref (ad u i 0)] : List Value).toArray below meth c H locs 0 0 (QV below D cy ad ns [.ref (ad t i 0), .ref (ad u i 0)] s (uI M t i m2)) (F0 m 2 ls []) := by
    intro k
    induction k with
    | zero => intro w2 g H locs ls hf; exact absurd hf (by simp [f5_copyFrom_l2])
    | succ k2 ih2 =>
      intro w2 g H locs ls hf hW hl
      have hf : f5_copyFrom_b2 n h (f5_copyFrom_l2 n h k2) w2 g = some m2 := hf
      unfold f5_copyFrom_b2 at hf
      refine lv_iload_n hx hb dX5_copyFrom_2 rfl (lv_at hl 2 rfl) ?_
      refine lv_aload_n hx hb dX5_copyFrom_3 rfl (lv_at hl 0 rfl) ?_
      refine x_get hx hb hts hown hK hW (hI.2 0 (x_o (by decide))) uI_o (hI.1 0 _) rfl inX5 0 (by decide) t_95 rfl dX5_copyFrom_4 ?_
      refine x_alen (v := (Int32.ofNat n)) hx hb hK hW (hI.2 1 (x_o (by decide))) uI_o (hI.1 1 _) (by decide) rfl dX5_copyFrom_7 ?_
      refine lv_icmp_ge (tgt := 69) hx hb dX5_copyFrom_8 (by decide) (fun c1 => ?_) (fun c1 => ?_)
      · replace hf := (if_pos c1).symm.trans hf
        exact J69 _ _ _ _ hf hW (lv_sub hl [0, 1] rfl)
      · replace hf := (if_neg c1).symm.trans hf
        refine lv_iload_n hx hb dX5_copyFrom_11 rfl (lv_at hl 2 rfl) ?_
        refine lv_aload_n hx hb dX5_copyFrom_12 rfl (lv_at hl 1 rfl) ?_
        refine x_get hx hb hts hown hK hW (hI2.2 0 (x_o (by decide))) (uI_oth hne hO) (hI2.1 0 _) rfl inX5 0 (by decide) t_95 rfl dX5_copyFrom_13 ?_
        refine x_alen (v := (Int32.ofNat n)) hx hb hK hW (hI2.2 1 (x_o (by decide))) (uI_oth hne hO) (hI2.1 1 _) (by decide) rfl dX5_copyFrom_16 ?_
        refine lv_icmp_ge (tgt := 69) hx hb dX5_copyFrom_17 (by decide) (fun c2 => ?_) (fun c2 => ?_)
        · replace hf := (if_pos c2).symm.trans hf
          exact J69 _ _ _ _ hf hW (lv_sub hl [0, 1] rfl)
        · replace hf := (if_neg c2).symm.trans hf
          refine lv_aload_n hx hb dX5_copyFrom_20 rfl (lv_at hl 1 rfl) ?_
          refine x_get hx hb hts hown hK hW (hI2.2 0 (x_o (by decide))) (uI_oth hne hO) (hI2.1 0 _) rfl inX5 0 (by decide) t_95 rfl dX5_copyFrom_21 ?_
          refine lv_iload_n hx hb dX5_copyFrom_24 rfl (lv_at hl 2 rfl) ?_
          obtain ⟨hi3, hf⟩ := ck_some hf
          refine x_aald hx hb hK hW (hI2.2 1 (x_o (by decide))) (uI_oth hne hO) (hI2.1 1 _) hi3 dX5_copyFrom_25 ?_
          refine lv_iconst (v := 0) hx hb dX5_copyFrom_26 (by decide) ?_
          refine lv_aload_n hx hb dX5_copyFrom_27 rfl (lv_at hl 0 rfl) ?_
          refine x_get hx hb hts hown hK hW (hI.2 0 (x_o (by decide))) uI_o (hI.1 0 _) rfl inX5 0 (by decide) t_95 rfl dX5_copyFrom_28 ?_
          refine lv_iload_n hx hb dX5_copyFrom_31 rfl (lv_at hl 2 rfl) ?_
          obtain ⟨hi4, hf⟩ := ck_some hf
          refine x_aald hx hb hK hW (hI.2 1 (x_o (by decide))) uI_o (hI.1 1 _) hi4 dX5_copyFrom_32 ?_
          refine lv_iconst (v := 0) hx hb dX5_copyFrom_33 (by decide) ?_
          refine lv_bipush (v := 100) hx hb dX5_copyFrom_34 (by decide) ?_
          replace hf := st_some hf
          refine x_copy (n := 100) hx hb (hml.trans hl.1.symm) hts hown hK hW (hI2.2 _ (x_lt2 (vp_lt hi3))) (uI_oth hne hO) (hI2.1 _ _) (hI.2 _ (x_lt2 (vp_lt hi4))) uI_o (fun _ => (hI.1 _ _)) rfl (by decide) (Nat.le_of_ble_eq_true rfl) (Nat.le_of_ble_eq_true rfl) uC_leaf t_689 (Nat.le_of_ble_eq_true rfl) (Nat.le_of_ble_eq_true rfl) dX5_copyFrom_36 (fun H locs hW => ?_)
          generalize (va_up g ((w2).toNatClampNeg + 6) (va_cpy (h ((w2).toNatClampNeg + 6)) (g ((w2).toNatClampNeg + 6)) 0 0 100)) = g5 at hf hW
          refine lv_aload_n hx hb dX5_copyFrom_39 rfl (lv_at hl 0 rfl) ?_
          refine x_get hx hb hts hown hK hW (hI.2 0 (x_o (by decide))) uI_o (hI.1 0 _) rfl inX5 1 (by decide) t_97 rfl dX5_copyFrom_40 ?_
          refine lv_iload_n hx hb dX5_copyFrom_43 rfl (lv_at hl 2 rfl) ?_
          refine lv_aload_n hx hb dX5_copyFrom_44 rfl (lv_at hl 1 rfl) ?_
          refine x_get hx hb hts hown hK hW (hI2.2 0 (x_o (by decide))) (uI_oth hne hO) (hI2.1 0 _) rfl inX5 1 (by decide) t_97 rfl dX5_copyFrom_45 ?_
          refine lv_iload_n hx hb dX5_copyFrom_48 rfl (lv_at hl 2 rfl) ?_
          obtain ⟨hi6, hf⟩ := rd_some hf
          refine x_iald hx hb hK hW (hI2.2 2 (x_o (by decide))) (uI_oth hne hO) (hI2.1 2 _) hi6 dX5_copyFrom_49 ?_
          generalize h 2 (w2).toNatClampNeg = v7 at hf ⊢
          obtain ⟨hi8, hf⟩ := wr_some hf
          refine x_iast hx hb hK hW (hI.2 2 (x_o (by decide))) uI_o (fun _ => (hI.1 2 _)) hi8 uC_leaf dX5_copyFrom_50 (fun H locs hW => ?_)
          generalize (va_up g5 2 (upd (g5 2) (w2).toNatClampNeg v7)) = g9 at hf hW
          refine lv_aload_n hx hb dX5_copyFrom_51 rfl (lv_at hl 0 rfl) ?_
          refine x_get hx hb hts hown hK hW (hI.2 0 (x_o (by decide))) uI_o (hI.1 0 _) rfl inX5 2 (by decide) t_100 rfl dX5_copyFrom_52 ?_
          refine lv_iload_n hx hb dX5_copyFrom_55 rfl (lv_at hl 2 rfl) ?_
          refine lv_aload_n hx hb dX5_copyFrom_56 rfl (lv_at hl 1 rfl) ?_
          refine x_get hx hb hts hown hK hW (hI2.2 0 (x_o (by decide))) (uI_oth hne hO) (hI2.1 0 _) rfl inX5 2 (by decide) t_100 rfl dX5_copyFrom_57 ?_
          refine lv_iload_n hx hb dX5_copyFrom_60 rfl (lv_at hl 2 rfl) ?_
          obtain ⟨hi10, hf⟩ := rd_some hf
          refine x_iald hx hb hK hW (hI2.2 3 (x_o (by decide))) (uI_oth hne hO) (hI2.1 3 _) hi10 dX5_copyFrom_61 ?_
          generalize h 3 (w2).toNatClampNeg = v11 at hf ⊢
          obtain ⟨hi12, hf⟩ := wr_some hf
          refine x_iast hx hb hK hW (hI.2 3 (x_o (by decide))) uI_o (fun _ => (hI.1 3 _)) hi12 uC_leaf dX5_copyFrom_62 (fun H locs hW => ?_)
          generalize (va_up g9 3 (upd (g9 3) (w2).toNatClampNeg v11)) = g13 at hf hW
          refine lv_iinc (v := (w2 + (1 : Int32))) (lv' := [(2, .int (w2 + (1 : Int32))), (0, .ref (ad t i 0)), (1, .ref (ad u i 0))]) hx hb dX5_copyFrom_63 hl (k := 2) rfl (by first | rfl | decide) (by decide) rfl (fun ls hl => ?_)
          refine lv_goto (tgt := 2) hx hb dX5_copyFrom_66 (by decide) ?_
          exact ih2 _ _ _ _ _ hf hW (lv_sub hl [1, 2, 0] rfl)
  exact L2 NF _ _ _ _ _ hf hW (lv_sub hl [1, 2, 0] rfl)
