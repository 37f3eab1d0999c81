def f11_seatOf_b2 (g : Sg) (rec2 : Int32 → Int32 → Option Int32) (w1 : Int32) (w2 : Int32) : Option Int32 :=
  (if (g 0 12) ≤ w2 then (some (-1 : Int32)) else (rd 30 (g 5) w2 (fun v3 => (if v3 = w1 then (some w2) else (rec2 w1 (w2 + (1 : Int32)))))))
def f11_seatOf_l2 (g : Sg) : Nat → Int32 → Int32 → Option Int32
  | 0 => fun _ _ => none
  | k + 1 => f11_seatOf_b2 g (f11_seatOf_l2 g k)
def f11_seatOf (g : Sg) (a1 : Int32) : Option Int32 :=
  (f11_seatOf_l2 g NF a1 (0 : Int32))
set_option maxHeartbeats 4000000 in
set_option maxRecDepth 100000 in
theorem f11_seatOf_ok (l : Launch) (D : va_G) (cy : Nat → ClassId) (ad : Nat → Nat → Nat → Nat) (ns : List (Nat × Nat × Nat)) (M : Me) (t i : Nat) (hI : IsModel cy ad ns t i) (g : Sg) (a1 : Int32) (r : Int32)  (hf : f11_seatOf g a1 = some r) : Ci l yX11_seatOf (.code yX11_seatOf cX11_seatOf 3 (some .int) :: tk_tb) { frames := 0, cells := 0, slots := 0, locals := 0 } D cy ad ns [.ref (ad t i 0), .int a1] (uI M t i g) r (uI M t i g) := by
  refine Ci.of (by decide) (Nat.le_of_ble_eq_true rfl) ?_
  intro p e s m below meth c ls hE hW hl
  obtain ⟨hx, hb, hr, hml, hown, hts, hlk, hK⟩ := hE
  have hA : ∀ q : Nat, s.heap.size ≤ q → Aw ad ns s.heap.size q := fun q h => Or.inr h
  have hl : lv_has ls 3 [(0, .ref (ad t i 0)), (1, .int a1)] := hl
  unfold f11_seatOf at hf
  refine lv_iconst (v := 0) hx hb dX11_seatOf_0 (by decide) ?_
  refine lv_istore_n (lv' := [(2, .int (0 : Int32)), (0, .ref (ad t i 0)), (1, .int a1)]) hx hb dX11_seatOf_1 rfl hl (by decide) rfl (fun ls hl => ?_)
  have L2 : ∀ (k : Nat) (w1 : Int32) (w2 : Int32) (H : Heap) (locs : List Loc) (ls : Array Slot), f11_seatOf_l2 g k w1 w2 = some r → Wl D cy ad ns (Aw ad ns s.heap.size) s.heap (uI M t i g) H locs → lv_has ls 3 [(0, .ref (ad t i 0)), (1, .int w1), (2, .int w2)] → W p l e { frames := 0, cells := 0, slots := 0, locals := 0 } s m ([.ref (ad t i 0), .int a1] : List Value).toArray below meth c H locs 0 0 (QI below D cy ad ns [.ref (ad t i 0), .int a1] s r (uI M t i g)) (F0 m 2 ls []) := by
    intro k
    induction k with
    | zero => intro w1 w2 H locs ls hf; exact absurd hf (by simp [f11_seatOf_l2])
    | succ k2 ih2 =>
      intro w1 w2 H locs ls hf hW hl
      have hf : f11_seatOf_b2 g (f11_seatOf_l2 g k2) w1 w2 = some r := hf
      unfold f11_seatOf_b2 at hf
      refine lv_iload_n hx hb dX11_seatOf_2 rfl (lv_at hl 2 rfl) ?_
      refine lv_aload_n hx hb dX11_seatOf_3 rfl (lv_at hl 0 rfl) ?_
      refine x_get hx hb hts hown hK hW (hI.2 0 (by decide)) uI_o (hI.1 0 _) rfl inX11 12 (by decide) t_752 rfl dX11_seatOf_4 ?_
      refine lv_icmp_ge (tgt := 28) hx hb dX11_seatOf_7 (by decide) (fun c1 => ?_) (fun c1 => ?_)
      · replace hf := (if_pos c1).symm.trans hf
        refine lv_iconst (v := -1) hx hb dX11_seatOf_28 (by decide) ?_
        exact x_iret hx hb hr hlk hK hW (Option.some.inj hf) rfl dX11_seatOf_29
      · replace hf := (if_neg c1).symm.trans hf
        refine lv_aload_n hx hb dX11_seatOf_10 rfl (lv_at hl 0 rfl) ?_
        refine x_get hx hb hts hown hK hW (hI.2 0 (by decide)) uI_o (hI.1 0 _) rfl inX11 7 (by decide) t_747 rfl dX11_seatOf_11 ?_
        refine lv_iload_n hx hb dX11_seatOf_14 rfl (lv_at hl 2 rfl) ?_
        obtain ⟨hi2, hf⟩ := rd_some hf
        refine x_iald hx hb hK hW (hI.2 5 (by decide)) uI_o (hI.1 5 _) hi2 dX11_seatOf_15 ?_
        generalize g 5 (w2).toNatClampNeg = v3 at hf ⊢
        refine lv_iload_n hx hb dX11_seatOf_16 rfl (lv_at hl 1 rfl) ?_
        refine lv_icmp_ne (tgt := 22) hx hb dX11_seatOf_17 (by decide) (fun c4 => ?_) (fun c4 => ?_)
        · replace hf := (if_neg c4).symm.trans hf
          refine lv_iinc (v := (w2 + (1 : Int32))) (lv' := [(2, .int (w2 + (1 : Int32))), (0, .ref (ad t i 0)), (1, .int w1)]) hx hb dX11_seatOf_22 hl (k := 2) rfl (by first | rfl | decide) (by decide) rfl (fun ls hl => ?_)
          refine lv_goto (tgt := 2) hx hb dX11_seatOf_25 (by decide) ?_
          exact ih2 _ _ _ _ _ hf hW (lv_sub hl [1, 2, 0] rfl)
        · replace hf := (if_pos c4).symm.trans hf
          refine lv_iload_n hx hb dX11_seatOf_20 rfl (lv_at hl 2 rfl) ?_
          exact x_iret hx hb hr hlk hK hW (Option.some.inj hf) rfl dX11_seatOf_21
  exact L2 NF _ _ _ _ _ hf hW (lv_sub hl [1, 2, 0] rfl)
def f11_again_b5 (g : Sg) (rec5 : Int32 → Int32 → Int32 → Option Int32) (w1 : Int32) (w3 : Int32) (w4 : Int32) : Option Int32 :=
  (if w3 ≤ w4 then (some (1000 : Int32)) else (rd 1805 (g 1) ((1405 : Int32) + w4) (fun v3 => (if v3 = w1 then (some w4) else (rec5 w1 w3 (w4 + (1 : Int32)))))))
def f11_again_l5 (g : Sg) : Nat → Int32 → Int32 → Int32 → Option Int32
  | 0 => fun _ _ _ => none
  | k + 1 => f11_again_b5 g (f11_again_l5 g k)
def f11_again (g : Sg) (a1 : Int32) (a2 : Int32) (a3 : Int32) : Option Int32 :=
  (f11_again_l5 g NF a1 a3 (a2 + (1 : Int32)))
set_option maxHeartbeats 4000000 in
set_option maxRecDepth 100000 in
theorem f11_again_ok (l : Launch) (D : va_G) (cy : Nat → ClassId) (ad : Nat → Nat → Nat → Nat) (ns : List (Nat × Nat × Nat)) (M : Me) (t i : Nat) (hI : IsModel cy ad ns t i) (g : Sg) (a1 : Int32) (a2 : Int32) (a3 : Int32) (r : Int32)  (hf : f11_again g a1 a2 a3 = some r) : Ci l yX11_again (.code yX11_again cX11_again 5 (some .int) :: tk_tb) { frames := 0, cells := 0, slots := 0, locals := 0 } D cy ad ns [.ref (ad t i 0), .int a1, .int a2, .int a3] (uI M t i g) r (uI M t i g) := by
  refine Ci.of (by decide) (Nat.le_of_ble_eq_true rfl) ?_
  intro p e s m below meth c ls hE hW hl
  obtain ⟨hx, hb, hr, hml, hown, hts, hlk, hK⟩ := hE
  have hA : ∀ q : Nat, s.heap.size ≤ q → Aw ad ns s.heap.size q := fun q h => Or.inr h
  have hl : lv_has ls 5 [(0, .ref (ad t i 0)), (1, .int a1), (2, .int a2), (3, .int a3)] := hl
  unfold f11_again at hf
  refine lv_iload_n hx hb dX11_again_0 rfl (lv_at hl 2 rfl) ?_
  refine lv_iconst (v := 1) hx hb dX11_again_1 (by decide) ?_
  refine lv_iadd hx hb dX11_again_2 ?_
  refine lv_istore (lv' := [(4, .int (a2 + (1 : Int32))), (0, .ref (ad t i 0)), (1, .int a1), (2, .int a2), (3, .int a3)]) hx hb dX11_again_3 hl (by decide) rfl (fun ls hl => ?_)
  have L5 : ∀ (k : Nat) (w1 : Int32) (w3 : Int32) (w4 : Int32) (H : Heap) (locs : List Loc) (ls : Array Slot), f11_again_l5 g k w1 w3 w4 = some r → Wl D cy ad ns (Aw ad ns s.heap.size) s.heap (uI M t i g) H locs → lv_has ls 5 [(0, .ref (ad t i 0)), (1, .int w1), (3, .int w3), (4, .int w4)] → W p l e { frames := 0, cells := 0, slots := 0, locals := 0 } s m ([.ref (ad t i 0), .int a1, .int a2, .int a3] : List Value).toArray below meth c H locs 0 0 (QI below D cy ad ns [.ref (ad t i 0), .int a1, .int a2, .int a3] s r (uI M t i g)) (F0 m 5 ls []) := by
    intro k
    induction k with
    | zero => intro w1 w3 w4 H locs ls hf; exact absurd hf (by simp [f11_again_l5])
    | succ k5 ih5 =>
      intro w1 w3 w4 H locs ls hf hW hl
      have hf : f11_again_b5 g (f11_again_l5 g k5) w1 w3 w4 = some r := hf
      unfold f11_again_b5 at hf
      refine lv_iload hx hb dX11_again_5 (lv_at hl 3 rfl) ?_
      refine lv_iload_n hx hb dX11_again_7 rfl (lv_at hl 2 rfl) ?_
      refine lv_icmp_ge (tgt := 35) hx hb dX11_again_8 (by decide) (fun c1 => ?_) (fun c1 => ?_)
      · replace hf := (if_pos c1).symm.trans hf
        refine lv_sipush (v := 1000) hx hb dX11_again_35 (by decide) ?_
        exact x_iret hx hb hr hlk hK hW (Option.some.inj hf) rfl dX11_again_38
      · replace hf := (if_neg c1).symm.trans hf
        refine lv_aload_n hx hb dX11_again_11 rfl (lv_at hl 0 rfl) ?_
        refine x_get hx hb hts hown hK hW (hI.2 0 (by decide)) uI_o (hI.1 0 _) rfl inX11 2 (by decide) t_742 rfl dX11_again_12 ?_
        refine lv_sipush (v := 1405) hx hb dX11_again_15 (by decide) ?_
        refine lv_iload hx hb dX11_again_18 (lv_at hl 3 rfl) ?_
        refine lv_iadd hx hb dX11_again_20 ?_
        obtain ⟨hi2, hf⟩ := rd_some hf
        refine x_iald hx hb hK hW (hI.2 1 (by decide)) uI_o (hI.1 1 _) hi2 dX11_again_21 ?_
        generalize g 1 (((1405 : Int32) + w4)).toNatClampNeg = v3 at hf ⊢
        refine lv_iload_n hx hb dX11_again_22 rfl (lv_at hl 1 rfl) ?_
        refine lv_icmp_ne (tgt := 29) hx hb dX11_again_23 (by decide) (fun c4 => ?_) (fun c4 => ?_)
        · replace hf := (if_neg c4).symm.trans hf
          refine lv_iinc (v := (w4 + (1 : Int32))) (lv' := [(4, .int (w4 + (1 : Int32))), (0, .ref (ad t i 0)), (1, .int w1), (3, .int w3)]) hx hb dX11_again_29 hl (k := 3) rfl (by first | rfl | decide) (by decide) rfl (fun ls hl => ?_)
          refine lv_goto (tgt := 5) hx hb dX11_again_32 (by decide) ?_
          exact ih5 _ _ _ _ _ _ hf hW (lv_sub hl [1, 2, 3, 0] rfl)
        · replace hf := (if_pos c4).symm.trans hf
          refine lv_iload hx hb dX11_again_26 (lv_at hl 3 rfl) ?_
          exact x_iret hx hb hr hlk hK hW (Option.some.inj hf) rfl dX11_again_28
  exact L5 NF _ _ _ _ _ _ hf hW (lv_sub hl [1, 2, 4, 0] rfl)
def f11_isSooner (g : Sg) (a1 : Int32) (a2 : Int32) (a3 : Int32) (a4 : Int32) (a5 : Int32) : Option Int32 :=
  (if a1 = 0 then (rd 30 (g 8) a2 (fun v3 => (rd 30 (g 8) a3 (fun v5 => (if v5 ≤ v3 then (some (0 : Int32)) else (some (1 : Int32))))))) else (if a1 = 1 then (rd 30 (g 9) a2 (fun v9 => (rd 30 (g 9) a3 (fun v11 => (if v11 ≤ v9 then (some (0 : Int32)) else (some (1 : Int32))))))) else (if a1 = 2 then (rd 30 (g 5) a2 (fun v15 => ((f11_again g v15 a4 a5).bind (fun r17 => (rd 30 (g 5) a3 (fun v20 => ((f11_again g v20 a4 a5).bind (fun r22 => (if r22 < r17 then (some (1 : Int32)) else (if r17 = r22 then (rd 30 (g 5) a2 (fun v27 => (rd 30 (g 5) a3 (fun v29 => (if v29 ≤ v27 then (some (0 : Int32)) else (some (1 : Int32))))))) else (some (0 : Int32)))))))))))) else (if a1 = 3 then (rd 30 (g 7) a2 (fun v33 => (rd 30 (g 7) a3 (fun v35 => (if v33 < v35 then (some (1 : Int32)) else (rd 30 (g 7) a2 (fun v38 => (rd 30 (g 7) a3 (fun v40 => (if v38 = v40 then (rd 30 (g 8) a2 (fun v43 => (rd 30 (g 8) a3 (fun v45 => (if v45 ≤ v43 then (some (0 : Int32)) else (some (1 : Int32))))))) else (some (0 : Int32)))))))))))) else (rd 30 (g 5) a2 (fun v48 => ((f11_again g v48 a4 a5).bind (fun r50 => (rd 30 (g 5) a3 (fun v53 => ((f11_again g v53 a4 a5).bind (fun r55 => (if r55 < r50 then (some (1 : Int32)) else (if r50 = r55 then (rd 30 (g 5) a2 (fun v60 => (rd 30 (g 5) a3 (fun v62 => (if v62 ≤ v60 then (some (0 : Int32)) else (some (1 : Int32))))))) else (some (0 : Int32))))))))))))))))
set_option maxHeartbeats 4000000 in
set_option maxRecDepth 100000 in
theorem f11_isSooner_ok (l : Launch) (D : va_G) (cy : Nat → ClassId) (ad : Nat → Nat → Nat → Nat) (ns : List (Nat × Nat × Nat)) (M : Me) (t i : Nat) (hI : IsModel cy ad ns t i) (g : Sg) (a1 : Int32) (a2 : Int32) (a3 : Int32) (a4 : Int32) (a5 : Int32) (r : Int32)  (hf : f11_isSooner g a1 a2 a3 a4 a5 = some r) : Ci l yX11_isSooner (.code yX11_isSooner cX11_isSooner 8 (some .boolean) :: tk_tb) { frames := 1, cells := 0, slots := 0, locals := 24 } D cy ad ns [.ref (ad t i 0), .int a1, .int a2, .int a3, .int a4, .int a5] (uI M t i g) r (uI M t i g) := by
  refine Ci.of (by decide) (Nat.le_of_ble_eq_true rfl) ?_
  intro p e s m below meth c ls hE hW hl
  obtain ⟨hx, hb, hr, hml, hown, hts, hlk, hK⟩ := hE
  have hA : ∀ q : Nat, s.heap.size ≤ q → Aw ad ns s.heap.size q := fun q h => Or.inr h
  have hl : lv_has ls 8 [(0, .ref (ad t i 0)), (1, .int a1), (2, .int a2), (3, .int a3), (4, .int a4), (5, .int a5)] := hl
  unfold f11_isSooner at hf
  refine lv_iload_n hx hb dX11_isSooner_0 rfl (lv_at hl 1 rfl) ?_
  by_cases c1 : a1 = 0
  · replace hf := (if_pos c1).symm.trans hf
    refine x_tab (v := 0) c1 hx hb dX11_isSooner_1 (by decide) (by decide) rfl (by decide) (tgt := 32) ?_
    refine lv_aload_n hx hb dX11_isSooner_32 rfl (lv_at hl 0 rfl) ?_
    refine x_get hx hb hts hown hK hW (hI.2 0 (by decide)) uI_o (hI.1 0 _) rfl inX11 10 (by decide) t_750 rfl dX11_isSooner_33 ?_
    refine lv_iload_n hx hb dX11_isSooner_36 rfl (lv_at hl 2 rfl) ?_
    obtain ⟨hi2, hf⟩ := rd_some hf
    refine x_iald hx hb hK hW (hI.2 8 (by decide)) uI_o (hI.1 8 _) hi2 dX11_isSooner_37 ?_
    generalize g 8 (a2).toNatClampNeg = v3 at hf ⊢
    refine lv_aload_n hx hb dX11_isSooner_38 rfl (lv_at hl 0 rfl) ?_
    refine x_get hx hb hts hown hK hW (hI.2 0 (by decide)) uI_o (hI.1 0 _) rfl inX11 10 (by decide) t_750 rfl dX11_isSooner_39 ?_
    refine lv_iload_n hx hb dX11_isSooner_42 rfl (lv_at hl 3 rfl) ?_
    obtain ⟨hi4, hf⟩ := rd_some hf
    refine x_iald hx hb hK hW (hI.2 8 (by decide)) uI_o (hI.1 8 _) hi4 dX11_isSooner_43 ?_
    generalize g 8 (a3).toNatClampNeg = v5 at hf ⊢
    refine lv_icmp_ge (tgt := 51) hx hb dX11_isSooner_44 (by decide) (fun c6 => ?_) (fun c6 => ?_)
    · replace hf := (if_pos c6).symm.trans hf
      refine lv_iconst (v := 0) hx hb dX11_isSooner_51 (by decide) ?_
      exact x_zret hx hb hr hlk (by first | decide | rfl) hK hW (Option.some.inj hf) rfl dX11_isSooner_52
    · replace hf := (if_neg c6).symm.trans hf
      refine lv_iconst (v := 1) hx hb dX11_isSooner_47 (by decide) ?_
      refine lv_goto (tgt := 52) hx hb dX11_isSooner_48 (by decide) ?_
      exact x_zret hx hb hr hlk (by first | decide | rfl) hK hW (Option.some.inj hf) rfl dX11_isSooner_52
  · replace hf := (if_neg c1).symm.trans hf
    by_cases c7 : a1 = 1
    · replace hf := (if_pos c7).symm.trans hf
      refine x_tab (v := 1) c7 hx hb dX11_isSooner_1 (by decide) (by decide) rfl (by decide) (tgt := 53) ?_
      refine lv_aload_n hx hb dX11_isSooner_53 rfl (lv_at hl 0 rfl) ?_
      refine x_get hx hb hts hown hK hW (hI.2 0 (by decide)) uI_o (hI.1 0 _) rfl inX11 11 (by decide) t_751 rfl dX11_isSooner_54 ?_
      refine lv_iload_n hx hb dX11_isSooner_57 rfl (lv_at hl 2 rfl) ?_
      obtain ⟨hi8, hf⟩ := rd_some hf
      refine x_iald hx hb hK hW (hI.2 9 (by decide)) uI_o (hI.1 9 _) hi8 dX11_isSooner_58 ?_
      generalize g 9 (a2).toNatClampNeg = v9 at hf ⊢
      refine lv_aload_n hx hb dX11_isSooner_59 rfl (lv_at hl 0 rfl) ?_
      refine x_get hx hb hts hown hK hW (hI.2 0 (by decide)) uI_o (hI.1 0 _) rfl inX11 11 (by decide) t_751 rfl dX11_isSooner_60 ?_
      refine lv_iload_n hx hb dX11_isSooner_63 rfl (lv_at hl 3 rfl) ?_
      obtain ⟨hi10, hf⟩ := rd_some hf
      refine x_iald hx hb hK hW (hI.2 9 (by decide)) uI_o (hI.1 9 _) hi10 dX11_isSooner_64 ?_
      generalize g 9 (a3).toNatClampNeg = v11 at hf ⊢
      refine lv_icmp_ge (tgt := 72) hx hb dX11_isSooner_65 (by decide) (fun c12 => ?_) (fun c12 => ?_)
      · replace hf := (if_pos c12).symm.trans hf
        refine lv_iconst (v := 0) hx hb dX11_isSooner_72 (by decide) ?_
        exact x_zret hx hb hr hlk (by first | decide | rfl) hK hW (Option.some.inj hf) rfl dX11_isSooner_73
      · replace hf := (if_neg c12).symm.trans hf
        refine lv_iconst (v := 1) hx hb dX11_isSooner_68 (by decide) ?_
        refine lv_goto (tgt := 73) hx hb dX11_isSooner_69 (by decide) ?_
        exact x_zret hx hb hr hlk (by first | decide | rfl) hK hW (Option.some.inj hf) rfl dX11_isSooner_73
    · replace hf := (if_neg c7).symm.trans hf
      by_cases c13 : a1 = 2
      · replace hf := (if_pos c13).symm.trans hf
        refine x_tab (v := 2) c13 hx hb dX11_isSooner_1 (by decide) (by decide) rfl (by decide) (tgt := 125) ?_
        refine lv_aload_n hx hb dX11_isSooner_125 rfl (lv_at hl 0 rfl) ?_
        refine lv_aload_n hx hb dX11_isSooner_126 rfl (lv_at hl 0 rfl) ?_
        refine x_get hx hb hts hown hK hW (hI.2 0 (by decide)) uI_o (hI.1 0 _) rfl inX11 7 (by decide) t_747 rfl dX11_isSooner_127 ?_
        refine lv_iload_n hx hb dX11_isSooner_130 rfl (lv_at hl 2 rfl) ?_
        obtain ⟨hi14, hf⟩ := rd_some hf
        refine x_iald hx hb hK hW (hI.2 5 (by decide)) uI_o (hI.1 5 _) hi14 dX11_isSooner_131 ?_
        generalize g 5 (a2).toNatClampNeg = v15 at hf ⊢
        refine lv_iload hx hb dX11_isSooner_132 (lv_at hl 4 rfl) ?_
        refine lv_iload hx hb dX11_isSooner_134 (lv_at hl 5 rfl) ?_
        obtain ⟨r17, hc16, hf⟩ := bd_some hf
        have hC18 := f11_again_ok l D cy ad ns M t i hI g v15 a4 a5 r17 hc16
        refine x_vi (n := 3) (As := [.int v15, .int a4, .int a5]) (rest := []) hx hb hml hts hown hK hW hA hC18 (hI.2 0 (by decide)) uI_o (hI.1 0 _) rfl rfl t_983 t_985 p_55 t_14 t_986 rfl (by decide +kernel) rfl rfl ⟨Nat.le_of_ble_eq_true rfl, Nat.le_of_ble_eq_true rfl⟩ hl.1 rfl (lv_room (Nat.le_of_ble_eq_true rfl)) dX11_isSooner_136 ⟨(Nat.le_of_ble_eq_true rfl), (Nat.le_of_ble_eq_true rfl)⟩ (fun H locs hW => ?_)
        refine lv_istore (lv' := [(6, .int r17), (0, .ref (ad t i 0)), (1, .int a1), (2, .int a2), (3, .int a3), (4, .int a4), (5, .int a5)]) hx hb dX11_isSooner_139 hl (by decide) rfl (fun ls hl => ?_)
        refine lv_aload_n hx hb dX11_isSooner_141 rfl (lv_at hl 1 rfl) ?_
        refine lv_aload_n hx hb dX11_isSooner_142 rfl (lv_at hl 1 rfl) ?_
        refine x_get hx hb hts hown hK hW (hI.2 0 (by decide)) uI_o (hI.1 0 _) rfl inX11 7 (by decide) t_747 rfl dX11_isSooner_143 ?_
        refine lv_iload_n hx hb dX11_isSooner_146 rfl (lv_at hl 4 rfl) ?_
        obtain ⟨hi19, hf⟩ := rd_some hf
        refine x_iald hx hb hK hW (hI.2 5 (by decide)) uI_o (hI.1 5 _) hi19 dX11_isSooner_147 ?_
        generalize g 5 (a3).toNatClampNeg = v20 at hf ⊢
        refine lv_iload hx hb dX11_isSooner_148 (lv_at hl 5 rfl) ?_
        refine lv_iload hx hb dX11_isSooner_150 (lv_at hl 6 rfl) ?_
        obtain ⟨r22, hc21, hf⟩ := bd_some hf
        have hC23 := f11_again_ok l D cy ad ns M t i hI g v20 a4 a5 r22 hc21
        refine x_vi (n := 3) (As := [.int v20, .int a4, .int a5]) (rest := []) hx hb hml hts hown hK hW hA hC23 (hI.2 0 (by decide)) uI_o (hI.1 0 _) rfl rfl t_983 t_985 p_55 t_14 t_986 rfl (by decide +kernel) rfl rfl ⟨Nat.le_of_ble_eq_true rfl, Nat.le_of_ble_eq_true rfl⟩ hl.1 rfl (lv_room (Nat.le_of_ble_eq_true rfl)) dX11_isSooner_152 ⟨(Nat.le_of_ble_eq_true rfl), (Nat.le_of_ble_eq_true rfl)⟩ (fun H locs hW => ?_)
        refine lv_istore (lv' := [(7, .int r22), (6, .int r17), (0, .ref (ad t i 0)), (1, .int a1), (2, .int a2), (3, .int a3), (4, .int a4), (5, .int a5)]) hx hb dX11_isSooner_155 hl (by decide) rfl (fun ls hl => ?_)
        refine lv_iload hx hb dX11_isSooner_157 (lv_at hl 1 rfl) ?_
        refine lv_iload hx hb dX11_isSooner_159 (lv_at hl 0 rfl) ?_
        refine lv_icmp_gt (tgt := 186) hx hb dX11_isSooner_161 (by decide) (fun c24 => ?_) (fun c24 => ?_)
        · replace hf := (if_pos c24).symm.trans hf
          refine lv_iconst (v := 1) hx hb dX11_isSooner_186 (by decide) ?_
          refine lv_goto (tgt := 191) hx hb dX11_isSooner_187 (by decide) ?_
          exact x_zret hx hb hr hlk (by first | decide | rfl) hK hW (Option.some.inj hf) rfl dX11_isSooner_191
        · replace hf := (if_neg c24).symm.trans hf
          refine lv_iload hx hb dX11_isSooner_164 (lv_at hl 1 rfl) ?_
          refine lv_iload hx hb dX11_isSooner_166 (lv_at hl 0 rfl) ?_
          refine lv_icmp_ne (tgt := 190) hx hb dX11_isSooner_168 (by decide) (fun c25 => ?_) (fun c25 => ?_)
          · replace hf := (if_neg c25).symm.trans hf
            refine lv_iconst (v := 0) hx hb dX11_isSooner_190 (by decide) ?_
            exact x_zret hx hb hr hlk (by first | decide | rfl) hK hW (Option.some.inj hf) rfl dX11_isSooner_191
          · replace hf := (if_pos c25).symm.trans hf
            refine lv_aload_n hx hb dX11_isSooner_171 rfl (lv_at hl 2 rfl) ?_
            refine x_get hx hb hts hown hK hW (hI.2 0 (by decide)) uI_o (hI.1 0 _) rfl inX11 7 (by decide) t_747 rfl dX11_isSooner_172 ?_
            refine lv_iload_n hx hb dX11_isSooner_175 rfl (lv_at hl 4 rfl) ?_
            obtain ⟨hi26, hf⟩ := rd_some hf
            refine x_iald hx hb hK hW (hI.2 5 (by decide)) uI_o (hI.1 5 _) hi26 dX11_isSooner_176 ?_
            generalize g 5 (a2).toNatClampNeg = v27 at hf ⊢
            refine lv_aload_n hx hb dX11_isSooner_177 rfl (lv_at hl 2 rfl) ?_
            refine x_get hx hb hts hown hK hW (hI.2 0 (by decide)) uI_o (hI.1 0 _) rfl inX11 7 (by decide) t_747 rfl dX11_isSooner_178 ?_
            refine lv_iload_n hx hb dX11_isSooner_181 rfl (lv_at hl 5 rfl) ?_
            obtain ⟨hi28, hf⟩ := rd_some hf
            refine x_iald hx hb hK hW (hI.2 5 (by decide)) uI_o (hI.1 5 _) hi28 dX11_isSooner_182 ?_
            generalize g 5 (a3).toNatClampNeg = v29 at hf ⊢
            refine lv_icmp_ge (tgt := 190) hx hb dX11_isSooner_183 (by decide) (fun c30 => ?_) (fun c30 => ?_)
            · replace hf := (if_pos c30).symm.trans hf
              refine lv_iconst (v := 0) hx hb dX11_isSooner_190 (by decide) ?_
              exact x_zret hx hb hr hlk (by first | decide | rfl) hK hW (Option.some.inj hf) rfl dX11_isSooner_191
            · replace hf := (if_neg c30).symm.trans hf
              refine lv_iconst (v := 1) hx hb dX11_isSooner_186 (by decide) ?_
              refine lv_goto (tgt := 191) hx hb dX11_isSooner_187 (by decide) ?_
              exact x_zret hx hb hr hlk (by first | decide | rfl) hK hW (Option.some.inj hf) rfl dX11_isSooner_191
      · replace hf := (if_neg c13).symm.trans hf
        by_cases c31 : a1 = 3
        · replace hf := (if_pos c31).symm.trans hf
          refine x_tab (v := 3) c31 hx hb dX11_isSooner_1 (by decide) (by decide) rfl (by decide) (tgt := 74) ?_
          refine lv_aload_n hx hb dX11_isSooner_74 rfl (lv_at hl 0 rfl) ?_
          refine x_get hx hb hts hown hK hW (hI.2 0 (by decide)) uI_o (hI.1 0 _) rfl inX11 9 (by decide) t_749 rfl dX11_isSooner_75 ?_
          refine lv_iload_n hx hb dX11_isSooner_78 rfl (lv_at hl 2 rfl) ?_
          obtain ⟨hi32, hf⟩ := rd_some hf
          refine x_iald hx hb hK hW (hI.2 7 (by decide)) uI_o (hI.1 7 _) hi32 dX11_isSooner_79 ?_
          generalize g 7 (a2).toNatClampNeg = v33 at hf ⊢
          refine lv_aload_n hx hb dX11_isSooner_80 rfl (lv_at hl 0 rfl) ?_
          refine x_get hx hb hts hown hK hW (hI.2 0 (by decide)) uI_o (hI.1 0 _) rfl inX11 9 (by decide) t_749 rfl dX11_isSooner_81 ?_
          refine lv_iload_n hx hb dX11_isSooner_84 rfl (lv_at hl 3 rfl) ?_
          obtain ⟨hi34, hf⟩ := rd_some hf
          refine x_iald hx hb hK hW (hI.2 7 (by decide)) uI_o (hI.1 7 _) hi34 dX11_isSooner_85 ?_
          generalize g 7 (a3).toNatClampNeg = v35 at hf ⊢
          refine lv_icmp_lt (tgt := 119) hx hb dX11_isSooner_86 (by decide) (fun c36 => ?_) (fun c36 => ?_)
          · replace hf := (if_pos c36).symm.trans hf
            refine lv_iconst (v := 1) hx hb dX11_isSooner_119 (by decide) ?_
            refine lv_goto (tgt := 124) hx hb dX11_isSooner_120 (by decide) ?_
            exact x_zret hx hb hr hlk (by first | decide | rfl) hK hW (Option.some.inj hf) rfl dX11_isSooner_124
          · replace hf := (if_neg c36).symm.trans hf
            refine lv_aload_n hx hb dX11_isSooner_89 rfl (lv_at hl 0 rfl) ?_
            refine x_get hx hb hts hown hK hW (hI.2 0 (by decide)) uI_o (hI.1 0 _) rfl inX11 9 (by decide) t_749 rfl dX11_isSooner_90 ?_
            refine lv_iload_n hx hb dX11_isSooner_93 rfl (lv_at hl 2 rfl) ?_
            obtain ⟨hi37, hf⟩ := rd_some hf
            refine x_iald hx hb hK hW (hI.2 7 (by decide)) uI_o (hI.1 7 _) hi37 dX11_isSooner_94 ?_
            generalize g 7 (a2).toNatClampNeg = v38 at hf ⊢
            refine lv_aload_n hx hb dX11_isSooner_95 rfl (lv_at hl 0 rfl) ?_
            refine x_get hx hb hts hown hK hW (hI.2 0 (by decide)) uI_o (hI.1 0 _) rfl inX11 9 (by decide) t_749 rfl dX11_isSooner_96 ?_
            refine lv_iload_n hx hb dX11_isSooner_99 rfl (lv_at hl 3 rfl) ?_
            obtain ⟨hi39, hf⟩ := rd_some hf
            refine x_iald hx hb hK hW (hI.2 7 (by decide)) uI_o (hI.1 7 _) hi39 dX11_isSooner_100 ?_
            generalize g 7 (a3).toNatClampNeg = v40 at hf ⊢
            refine lv_icmp_ne (tgt := 123) hx hb dX11_isSooner_101 (by decide) (fun c41 => ?_) (fun c41 => ?_)
            · replace hf := (if_neg c41).symm.trans hf
              refine lv_iconst (v := 0) hx hb dX11_isSooner_123 (by decide) ?_
              exact x_zret hx hb hr hlk (by first | decide | rfl) hK hW (Option.some.inj hf) rfl dX11_isSooner_124
            · replace hf := (if_pos c41).symm.trans hf
              refine lv_aload_n hx hb dX11_isSooner_104 rfl (lv_at hl 0 rfl) ?_
              refine x_get hx hb hts hown hK hW (hI.2 0 (by decide)) uI_o (hI.1 0 _) rfl inX11 10 (by decide) t_750 rfl dX11_isSooner_105 ?_
              refine lv_iload_n hx hb dX11_isSooner_108 rfl (lv_at hl 2 rfl) ?_
              obtain ⟨hi42, hf⟩ := rd_some hf
              refine x_iald hx hb hK hW (hI.2 8 (by decide)) uI_o (hI.1 8 _) hi42 dX11_isSooner_109 ?_
              generalize g 8 (a2).toNatClampNeg = v43 at hf ⊢
              refine lv_aload_n hx hb dX11_isSooner_110 rfl (lv_at hl 0 rfl) ?_
              refine x_get hx hb hts hown hK hW (hI.2 0 (by decide)) uI_o (hI.1 0 _) rfl inX11 10 (by decide) t_750 rfl dX11_isSooner_111 ?_
              refine lv_iload_n hx hb dX11_isSooner_114 rfl (lv_at hl 3 rfl) ?_
              obtain ⟨hi44, hf⟩ := rd_some hf
              refine x_iald hx hb hK hW (hI.2 8 (by decide)) uI_o (hI.1 8 _) hi44 dX11_isSooner_115 ?_
              generalize g 8 (a3).toNatClampNeg = v45 at hf ⊢
              refine lv_icmp_ge (tgt := 123) hx hb dX11_isSooner_116 (by decide) (fun c46 => ?_) (fun c46 => ?_)
              · replace hf := (if_pos c46).symm.trans hf
                refine lv_iconst (v := 0) hx hb dX11_isSooner_123 (by decide) ?_
                exact x_zret hx hb hr hlk (by first | decide | rfl) hK hW (Option.some.inj hf) rfl dX11_isSooner_124
              · replace hf := (if_neg c46).symm.trans hf
                refine lv_iconst (v := 1) hx hb dX11_isSooner_119 (by decide) ?_
                refine lv_goto (tgt := 124) hx hb dX11_isSooner_120 (by decide) ?_
                exact x_zret hx hb hr hlk (by first | decide | rfl) hK hW (Option.some.inj hf) rfl dX11_isSooner_124
        · replace hf := (if_neg c31).symm.trans hf
          refine lv_tableOut (tgt := 125) hx hb dX11_isSooner_1 (by have := ne_toInt (z := 0) (by decide) c1; have := ne_toInt (z := 1) (by decide) c7; have := ne_toInt (z := 2) (by decide) c13; have := ne_toInt (z := 3) (by decide) c31; omega) (by decide) ?_
          refine lv_aload_n hx hb dX11_isSooner_125 rfl (lv_at hl 0 rfl) ?_
          refine lv_aload_n hx hb dX11_isSooner_126 rfl (lv_at hl 0 rfl) ?_
          refine x_get hx hb hts hown hK hW (hI.2 0 (by decide)) uI_o (hI.1 0 _) rfl inX11 7 (by decide) t_747 rfl dX11_isSooner_127 ?_
          refine lv_iload_n hx hb dX11_isSooner_130 rfl (lv_at hl 2 rfl) ?_
          obtain ⟨hi47, hf⟩ := rd_some hf
          refine x_iald hx hb hK hW (hI.2 5 (by decide)) uI_o (hI.1 5 _) hi47 dX11_isSooner_131 ?_
          generalize g 5 (a2).toNatClampNeg = v48 at hf ⊢
          refine lv_iload hx hb dX11_isSooner_132 (lv_at hl 4 rfl) ?_
          refine lv_iload hx hb dX11_isSooner_134 (lv_at hl 5 rfl) ?_
          obtain ⟨r50, hc49, hf⟩ := bd_some hf
          have hC51 := f11_again_ok l D cy ad ns M t i hI g v48 a4 a5 r50 hc49
          refine x_vi (n := 3) (As := [.int v48, .int a4, .int a5]) (rest := []) hx hb hml hts hown hK hW hA hC51 (hI.2 0 (by decide)) uI_o (hI.1 0 _) rfl rfl t_983 t_985 p_55 t_14 t_986 rfl (by decide +kernel) rfl rfl ⟨Nat.le_of_ble_eq_true rfl, Nat.le_of_ble_eq_true rfl⟩ hl.1 rfl (lv_room (Nat.le_of_ble_eq_true rfl)) dX11_isSooner_136 ⟨(Nat.le_of_ble_eq_true rfl), (Nat.le_of_ble_eq_true rfl)⟩ (fun H locs hW => ?_)
          refine lv_istore (lv' := [(6, .int r50), (0, .ref (ad t i 0)), (1, .int a1), (2, .int a2), (3, .int a3), (4, .int a4), (5, .int a5)]) hx hb dX11_isSooner_139 hl (by decide) rfl (fun ls hl => ?_)
          refine lv_aload_n hx hb dX11_isSooner_141 rfl (lv_at hl 1 rfl) ?_
          refine lv_aload_n hx hb dX11_isSooner_142 rfl (lv_at hl 1 rfl) ?_
          refine x_get hx hb hts hown hK hW (hI.2 0 (by decide)) uI_o (hI.1 0 _) rfl inX11 7 (by decide) t_747 rfl dX11_isSooner_143 ?_
          refine lv_iload_n hx hb dX11_isSooner_146 rfl (lv_at hl 4 rfl) ?_
          obtain ⟨hi52, hf⟩ := rd_some hf
          refine x_iald hx hb hK hW (hI.2 5 (by decide)) uI_o (hI.1 5 _) hi52 dX11_isSooner_147 ?_
          generalize g 5 (a3).toNatClampNeg = v53 at hf ⊢
          refine lv_iload hx hb dX11_isSooner_148 (lv_at hl 5 rfl) ?_
          refine lv_iload hx hb dX11_isSooner_150 (lv_at hl 6 rfl) ?_
          obtain ⟨r55, hc54, hf⟩ := bd_some hf
          have hC56 := f11_again_ok l D cy ad ns M t i hI g v53 a4 a5 r55 hc54
          refine x_vi (n := 3) (As := [.int v53, .int a4, .int a5]) (rest := []) hx hb hml hts hown hK hW hA hC56 (hI.2 0 (by decide)) uI_o (hI.1 0 _) rfl rfl t_983 t_985 p_55 t_14 t_986 rfl (by decide +kernel) rfl rfl ⟨Nat.le_of_ble_eq_true rfl, Nat.le_of_ble_eq_true rfl⟩ hl.1 rfl (lv_room (Nat.le_of_ble_eq_true rfl)) dX11_isSooner_152 ⟨(Nat.le_of_ble_eq_true rfl), (Nat.le_of_ble_eq_true rfl)⟩ (fun H locs hW => ?_)
          refine lv_istore (lv' := [(7, .int r55), (6, .int r50), (0, .ref (ad t i 0)), (1, .int a1), (2, .int a2), (3, .int a3), (4, .int a4), (5, .int a5)]) hx hb dX11_isSooner_155 hl (by decide) rfl (fun ls hl => ?_)
          refine lv_iload hx hb dX11_isSooner_157 (lv_at hl 1 rfl) ?_
          refine lv_iload hx hb dX11_isSooner_159 (lv_at hl 0 rfl) ?_
          refine lv_icmp_gt (tgt := 186) hx hb dX11_isSooner_161 (by decide) (fun c57 => ?_) (fun c57 => ?_)
          · replace hf := (if_pos c57).symm.trans hf
            refine lv_iconst (v := 1) hx hb dX11_isSooner_186 (by decide) ?_
            refine lv_goto (tgt := 191) hx hb dX11_isSooner_187 (by decide) ?_
            exact x_zret hx hb hr hlk (by first | decide | rfl) hK hW (Option.some.inj hf) rfl dX11_isSooner_191
          · replace hf := (if_neg c57).symm.trans hf
            refine lv_iload hx hb dX11_isSooner_164 (lv_at hl 1 rfl) ?_
            refine lv_iload hx hb dX11_isSooner_166 (lv_at hl 0 rfl) ?_
            refine lv_icmp_ne (tgt := 190) hx hb dX11_isSooner_168 (by decide) (fun c58 => ?_) (fun c58 => ?_)
            · replace hf := (if_neg c58).symm.trans hf
              refine lv_iconst (v := 0) hx hb dX11_isSooner_190 (by decide) ?_
              exact x_zret hx hb hr hlk (by first | decide | rfl) hK hW (Option.some.inj hf) rfl dX11_isSooner_191
            · replace hf := (if_pos c58).symm.trans hf
              refine lv_aload_n hx hb dX11_isSooner_171 rfl (lv_at hl 2 rfl) ?_
              refine x_get hx hb hts hown hK hW (hI.2 0 (by decide)) uI_o (hI.1 0 _) rfl inX11 7 (by decide) t_747 rfl dX11_isSooner_172 ?_
              refine lv_iload_n hx hb dX11_isSooner_175 rfl (lv_at hl 4 rfl) ?_
              obtain ⟨hi59, hf⟩ := rd_some hf
              refine x_iald hx hb hK hW (hI.2 5 (by decide)) uI_o (hI.1 5 _) hi59 dX11_isSooner_176 ?_
              generalize g 5 (a2).toNatClampNeg = v60 at hf ⊢
              refine lv_aload_n hx hb dX11_isSooner_177 rfl (lv_at hl 2 rfl) ?_
              refine x_get hx hb hts hown hK hW (hI.2 0 (by decide)) uI_o (hI.1 0 _) rfl inX11 7 (by decide) t_747 rfl dX11_isSooner_178 ?_
              refine lv_iload_n hx hb dX11_isSooner_181 rfl (lv_at hl 5 rfl) ?_
              obtain ⟨hi61, hf⟩ := rd_some hf
              refine x_iald hx hb hK hW (hI.2 5 (by decide)) uI_o (hI.1 5 _) hi61 dX11_isSooner_182 ?_
              generalize g 5 (a3).toNatClampNeg = v62 at hf ⊢
              refine lv_icmp_ge (tgt := 190) hx hb dX11_isSooner_183 (by decide) (fun c63 => ?_) (fun c63 => ?_)
              · replace hf := (if_pos c63).symm.trans hf
                refine lv_iconst (v := 0) hx hb dX11_isSooner_190 (by decide) ?_
                exact x_zret hx hb hr hlk (by first | decide | rfl) hK hW (Option.some.inj hf) rfl dX11_isSooner_191
              · replace hf := (if_neg c63).symm.trans hf
                refine lv_iconst (v := 1) hx hb dX11_isSooner_186 (by decide) ?_
                refine lv_goto (tgt := 191) hx hb dX11_isSooner_187 (by decide) ?_
                exact x_zret hx hb hr hlk (by first | decide | rfl) hK hW (Option.some.inj hf) rfl dX11_isSooner_191
def f11_seatThatGoes_b69 (rec69 : Int32 → Int32 → Int32 → Int32 → Int32 → Sg → Option (Int32 × Sg)) (w1 : Int32) (w3 : Int32) (w4 : Int32) (w5 : Int32) (w6 : Int32) (g : Sg) : Option (Int32 × Sg) :=
  (if (g 0 12) ≤ w6 then (some (w5, g)) else ((f11_isSooner g w1 w6 w5 w3 w4).bind (fun r4 => (if r4 = 0 then (rec69 w1 w3 w4 w5 (w6 + (1 : Int32)) g) else (rec69 w1 w3 w4 w6 (w6 + (1 : Int32)) g)))))
def f11_seatThatGoes_l69 : Nat → Int32 → Int32 → Int32 → Int32 → Int32 → Sg → Option (Int32 × Sg)
  | 0 => fun _ _ _ _ _ _ => none
  | k + 1 => f11_seatThatGoes_b69 (f11_seatThatGoes_l69 k)
def f11_seatThatGoes_j42 (w2 : Int32) (g : Sg) : Option (Int32 × Sg) :=
  (nz w2 (st (va_up g 0 (upd (g 0) 13 (((g 0 13) + (1 : Int32)) - ((g 0 13) + (1 : Int32)) / w2 * w2))) (fun g15 => (some ((g 0 13), g15)))))
def f11_seatThatGoes_b5 (rec5 : Int32 → Sg → Option (Int32 × Sg)) (w2 : Int32) (g : Sg) : Option (Int32 × Sg) :=
  (rd 30 (g 6) (g 0 13) (fun v8 => (if v8 = 0 then (f11_seatThatGoes_j42 w2 g) else (wr 30 (g 0 13) (va_up g 6 (upd (g 6) ((g 0 13)).toNatClampNeg (0 : Int32))) (fun g11 => (nz w2 (st (va_up g11 0 (upd (g11 0) 13 (((g11 0 13) + (1 : Int32)) - ((g11 0 13) + (1 : Int32)) / w2 * w2))) (fun g13 => (rec5 w2 g13)))))))))
def f11_seatThatGoes_l5 : Nat → Int32 → Sg → Option (Int32 × Sg)
  | 0 => fun _ _ => none
  | k + 1 => f11_seatThatGoes_b5 (f11_seatThatGoes_l5 k)
def f11_seatThatGoes (a1 : Int32) (a2 : Int32) (a3 : Int32) (a4 : Int32) (g : Sg) : Option (Int32 × Sg) :=
  (if a1 = (2 : Int32) then (f11_seatThatGoes_l5 NF a2 g) else (f11_seatThatGoes_l69 NF a1 a3 a4 (0 : Int32) (1 : Int32) g))
set_option maxHeartbeats 4000000 in
set_option maxRecDepth 100000 in
theorem f11_seatThatGoes_ok (l : Launch) (D : va_G) (cy : Nat → ClassId) (ad : Nat → Nat → Nat → Nat) (ns : List (Nat × Nat × Nat)) (M : Me) (t i : Nat) (hI : IsModel cy ad ns t i) (g : Sg) (a1 : Int32) (a2 : Int32) (a3 : Int32) (a4 : Int32) (r : Int32) (m2 : Sg)  (hf : f11_seatThatGoes a1 a2 a3 a4 g = some (r, m2)) : Ci l yX11_seatThatGoes (.code yX11_seatThatGoes cX11_seatThatGoes 7 (some .int) :: tk_tb) { frames := 2, cells := 0, slots := 0, locals := 51 } D cy ad ns [.ref (ad t i 0), .int a1, .int a2, .int a3, .int a4] (uI M t i g) r (uI M t i m2) := by
  refine Ci.of (by decide) (Nat.le_of_ble_eq_true rfl) ?_
  intro p e s m below meth c ls hE hW hl
  obtain ⟨hx, hb, hr, hml, hown, hts, hlk, hK⟩ := hE
  have hA : ∀ q : Nat, s.heap.size ≤ q → Aw ad ns s.heap.size q := fun q h => Or.inr h
  have hl : lv_has ls 7 [(0, .ref (ad t i 0)), (1, .int a1), (2, .int a2), (3, .int a3), (4, .int a4)] := hl
  unfold f11_seatThatGoes at hf
  have J42 : ∀ (w2 : Int32) (g : Sg) (H : Heap) (locs : List Loc) (ls : Array Slot), f11_seatThatGoes_j42 w2 g = some (r, m2) → Wl D cy ad ns (Aw ad ns s.heap.size) s.heap (uI M t i g) H locs → lv_has ls 7 [(0, .ref (ad t i 0)), (2, .int w2)] → W p l e { frames := 2, cells := 0, slots := 0, locals := 51 } s m ([.ref (ad t i 0), .int a1, .int a2, .int a3, .int a4] : List Value).toArray below meth c H locs 0 0 (QI below D cy ad ns [.ref (ad t i 0), .int a1, .int a2, .int a3, .int a4] s r (uI M t i m2)) (F0 m 42 ls []) := by
    intro w2 g H locs ls hf hW hl
    unfold f11_seatThatGoes_j42 at hf
    refine lv_aload_n hx hb dX11_seatThatGoes_42 rfl (lv_at hl 0 rfl) ?_
    refine x_get hx hb hts hown hK hW (hI.2 0 (by decide)) uI_o (hI.1 0 _) rfl inX11 13 (by decide) t_753 rfl dX11_seatThatGoes_43 ?_
    refine lv_istore (lv' := [(5, .int (g 0 13)), (0, .ref (ad t i 0)), (2, .int w2)]) hx hb dX11_seatThatGoes_46 hl (by decide) rfl (fun ls hl => ?_)
    refine lv_aload_n hx hb dX11_seatThatGoes_48 rfl (lv_at hl 1 rfl) ?_
    refine lv_aload_n hx hb dX11_seatThatGoes_49 rfl (lv_at hl 1 rfl) ?_
    refine x_get hx hb hts hown hK hW (hI.2 0 (by decide)) uI_o (hI.1 0 _) rfl inX11 13 (by decide) t_753 rfl dX11_seatThatGoes_50 ?_
    refine lv_iconst (v := 1) hx hb dX11_seatThatGoes_53 (by decide) ?_
    refine lv_iadd hx hb dX11_seatThatGoes_54 ?_
    refine lv_iload_n hx hb dX11_seatThatGoes_55 rfl (lv_at hl 2 rfl) ?_
    obtain ⟨hz14, hf⟩ := nz_some hf
    refine lv_irem hx hb dX11_seatThatGoes_56 hz14 ?_
    replace hf := st_some hf
    refine x_put hx hb hts hown hK hW (hI.2 0 (by decide)) uI_o (hI.1 0 _) rfl inX11 tyX11 tyX11_ok nmX11 13 (by decide) t_753 rfl rfl (Nat.le_of_ble_eq_true rfl) (hI.1 0 _) uC_leaf dX11_seatThatGoes_57 (fun H locs hW => ?_)
    generalize (va_up g 0 (upd (g 0) 13 (((g 0 13) + (1 : Int32)) - ((g 0 13) + (1 : Int32)) / w2 * w2))) = g15 at hf hW
    refine lv_iload hx hb dX11_seatThatGoes_60 (lv_at hl 0 rfl) ?_
    exact x_iret hx hb hr hlk hK hW (congrArg Prod.fst (Option.some.inj hf)) (congrArg (fun q => (uI M t i (Prod.snd q))) (Option.some.inj hf)) dX11_seatThatGoes_62
  refine lv_iload_n hx hb dX11_seatThatGoes_0 rfl (lv_at hl 1 rfl) ?_
  refine lv_iconst (v := 2) hx hb dX11_seatThatGoes_1 (by decide) ?_
  refine lv_icmp_ne (tgt := 63) hx hb dX11_seatThatGoes_2 (by decide) (fun c1 => ?_) (fun c1 => ?_)
  · replace hf := (if_neg c1).symm.trans hf
    refine lv_iconst (v := 0) hx hb dX11_seatThatGoes_63 (by decide) ?_
    refine lv_istore (lv' := [(5, .int (0 : Int32)), (0, .ref (ad t i 0)), (1, .int a1), (2, .int a2), (3, .int a3), (4, .int a4)]) hx hb dX11_seatThatGoes_64 hl (by decide) rfl (fun ls hl => ?_)
    refine lv_iconst (v := 1) hx hb dX11_seatThatGoes_66 (by decide) ?_
    refine lv_istore (lv' := [(6, .int (1 : Int32)), (5, .int (0 : Int32)), (0, .ref (ad t i 0)), (1, .int a1), (2, .int a2), (3, .int a3), (4, .int a4)]) hx hb dX11_seatThatGoes_67 hl (by decide) rfl (fun ls hl => ?_)
    have L69 : ∀ (k : Nat) (w1 : Int32) (w3 : Int32) (w4 : Int32) (w5 : Int32) (w6 : Int32) (g : Sg) (H : Heap) (locs : List Loc) (ls : Array Slot), f11_seatThatGoes_l69 k w1 w3 w4 w5 w6 g = some (r, m2) → Wl D cy ad ns (Aw ad ns s.heap.size) s.heap (uI M t i g) H locs → lv_has ls 7 [(0, .ref (ad t i 0)), (1, .int w1), (3, .int w3), (4, .int w4), (5, .int w5), (6, .int w6)] → W p l e { frames := 2, cells := 0, slots := 0, locals := 51 } s m ([.ref (ad t i 0), .int a1, .int a2, .int a3, .int a4] : List Value).toArray below meth c H locs 0 0 (QI below D cy ad ns [.ref (ad t i 0), .int a1, .int a2, .int a3, .int a4] s r (uI M t i m2)) (F0 m 69 ls []) := by
      intro k
      induction k with
      | zero => intro w1 w3 w4 w5 w6 g H locs ls hf; exact absurd hf (by simp [f11_seatThatGoes_l69])
      | succ k69 ih69 =>
        intro w1 w3 w4 w5 w6 g H locs ls hf hW hl
        have hf : f11_seatThatGoes_b69 (f11_seatThatGoes_l69 k69) w1 w3 w4 w5 w6 g = some (r, m2) := hf
        unfold f11_seatThatGoes_b69 at hf
        refine lv_iload hx hb dX11_seatThatGoes_69 (lv_at hl 5 rfl) ?_
        refine lv_aload_n hx hb dX11_seatThatGoes_71 rfl (lv_at hl 0 rfl) ?_
        refine x_get hx hb hts hown hK hW (hI.2 0 (by decide)) uI_o (hI.1 0 _) rfl inX11 12 (by decide) t_752 rfl dX11_seatThatGoes_72 ?_
        refine lv_icmp_ge (tgt := 108) hx hb dX11_seatThatGoes_75 (by decide) (fun c2 => ?_) (fun c2 => ?_)
        · replace hf := (if_pos c2).symm.trans hf
          refine lv_iload hx hb dX11_seatThatGoes_108 (lv_at hl 4 rfl) ?_
          exact x_iret hx hb hr hlk hK hW (congrArg Prod.fst (Option.some.inj hf)) (congrArg (fun q => (uI M t i (Prod.snd q))) (Option.some.inj hf)) dX11_seatThatGoes_110
        · replace hf := (if_neg c2).symm.trans hf
          refine lv_aload_n hx hb dX11_seatThatGoes_78 rfl (lv_at hl 0 rfl) ?_
          refine lv_iload_n hx hb dX11_seatThatGoes_79 rfl (lv_at hl 1 rfl) ?_
          refine lv_iload hx hb dX11_seatThatGoes_80 (lv_at hl 5 rfl) ?_
          refine lv_iload hx hb dX11_seatThatGoes_82 (lv_at hl 4 rfl) ?_
          refine lv_iload_n hx hb dX11_seatThatGoes_84 rfl (lv_at hl 2 rfl) ?_
          refine lv_iload hx hb dX11_seatThatGoes_85 (lv_at hl 3 rfl) ?_
          obtain ⟨r4, hc3, hf⟩ := bd_some hf
          have hC5 := f11_isSooner_ok l D cy ad ns M t i hI g w1 w6 w5 w3 w4 r4 hc3
          refine x_vi (n := 5) (As := [.int w1, .int w6, .int w5, .int w3, .int w4]) (rest := []) hx hb hml hts hown hK hW hA hC5 (hI.2 0 (by decide)) uI_o (hI.1 0 _) rfl rfl t_979 t_981 p_54 t_14 t_982 rfl (by decide +kernel) rfl rfl ⟨Nat.le_of_ble_eq_true rfl, Nat.le_of_ble_eq_true rfl⟩ hl.1 rfl (lv_room (Nat.le_of_ble_eq_true rfl)) dX11_seatThatGoes_87 ⟨(Nat.le_of_ble_eq_true rfl), (Nat.le_of_ble_eq_true rfl)⟩ (fun H locs hW => ?_)
          refine lv_if_eq (tgt := 98) hx hb dX11_seatThatGoes_90 (by decide) (fun c6 => ?_) (fun c6 => ?_)
          · replace hf := (if_pos c6).symm.trans hf
            refine lv_iload hx hb dX11_seatThatGoes_98 (lv_at hl 4 rfl) ?_
            refine lv_istore (lv' := [(5, .int w5), (0, .ref (ad t i 0)), (1, .int w1), (3, .int w3), (4, .int w4), (6, .int w6)]) hx hb dX11_seatThatGoes_100 hl (by decide) rfl (fun ls hl => ?_)
            refine lv_iinc (v := (w6 + (1 : Int32))) (lv' := [(6, .int (w6 + (1 : Int32))), (5, .int w5), (0, .ref (ad t i 0)), (1, .int w1), (3, .int w3), (4, .int w4)]) hx hb dX11_seatThatGoes_102 hl (k := 5) rfl (by first | rfl | decide) (by decide) rfl (fun ls hl => ?_)
            refine lv_goto (tgt := 69) hx hb dX11_seatThatGoes_105 (by decide) ?_
            exact ih69 _ _ _ _ _ _ _ _ _ hf hW (lv_sub hl [2, 3, 4, 5, 1, 0] rfl)
          · replace hf := (if_neg c6).symm.trans hf
            refine lv_iload hx hb dX11_seatThatGoes_93 (lv_at hl 5 rfl) ?_
            refine lv_goto (tgt := 100) hx hb dX11_seatThatGoes_95 (by decide) ?_
            refine lv_istore (lv' := [(5, .int w6), (0, .ref (ad t i 0)), (1, .int w1), (3, .int w3), (4, .int w4), (6, .int w6)]) hx hb dX11_seatThatGoes_100 hl (by decide) rfl (fun ls hl => ?_)
            refine lv_iinc (v := (w6 + (1 : Int32))) (lv' := [(6, .int (w6 + (1 : Int32))), (5, .int w6), (0, .ref (ad t i 0)), (1, .int w1), (3, .int w3), (4, .int w4)]) hx hb dX11_seatThatGoes_102 hl (k := 5) rfl (by first | rfl | decide) (by decide) rfl (fun ls hl => ?_)
            refine lv_goto (tgt := 69) hx hb dX11_seatThatGoes_105 (by decide) ?_
            exact ih69 _ _ _ _ _ _ _ _ _ hf hW (lv_sub hl [2, 3, 4, 5, 1, 0] rfl)
    exact L69 NF _ _ _ _ _ _ _ _ _ hf hW (lv_sub hl [2, 3, 5, 6, 1, 0] rfl)
  · replace hf := (if_pos c1).symm.trans hf
    have L5 : ∀ (k : Nat) (w2 : Int32) (g : Sg) (H : Heap) (locs : List Loc) (ls : Array Slot), f11_seatThatGoes_l5 k w2 g = some (r, m2) → Wl D cy ad ns (Aw ad ns s.heap.size) s.heap (uI M t i g) H locs → lv_has ls 7 [(0, .ref (ad t i 0)), (2, .int w2)] → W p l e { frames := 2, cells := 0, slots := 0, locals := 51 } s m ([.ref (ad t i 0), .int a1, .int a2, .int a3, .int a4] : List Value).toArray below meth c H locs 0 0 (QI below D cy ad ns [.ref (ad t i 0), .int a1, .int a2, .int a3, .int a4] s r (uI M t i m2)) (F0 m 5 ls []) := by
      intro k
      induction k with
      | zero => intro w2 g H locs ls hf; exact absurd hf (by simp [f11_seatThatGoes_l5])
      | succ k5 ih5 =>
        intro w2 g H locs ls hf hW hl
        have hf : f11_seatThatGoes_b5 (f11_seatThatGoes_l5 k5) w2 g = some (r, m2) := hf
        unfold f11_seatThatGoes_b5 at hf
        refine lv_aload_n hx hb dX11_seatThatGoes_5 rfl (lv_at hl 0 rfl) ?_
        refine x_get hx hb hts hown hK hW (hI.2 0 (by decide)) uI_o (hI.1 0 _) rfl inX11 8 (by decide) t_748 rfl dX11_seatThatGoes_6 ?_
        refine lv_aload_n hx hb dX11_seatThatGoes_9 rfl (lv_at hl 0 rfl) ?_
        refine x_get hx hb hts hown hK hW (hI.2 0 (by decide)) uI_o (hI.1 0 _) rfl inX11 13 (by decide) t_753 rfl dX11_seatThatGoes_10 ?_
        obtain ⟨hi7, hf⟩ := rd_some hf
        refine x_zald hx hb hK hW (hI.2 6 (by decide)) uI_o (hI.1 6 _) hi7 dX11_seatThatGoes_13 ?_
        generalize g 6 ((g 0 13)).toNatClampNeg = v8 at hf ⊢
        refine lv_if_eq (tgt := 42) hx hb dX11_seatThatGoes_14 (by decide) (fun c9 => ?_) (fun c9 => ?_)
        · replace hf := (if_pos c9).symm.trans hf
          exact J42 _ _ _ _ _ hf hW (lv_sub hl [0, 1] rfl)
        · replace hf := (if_neg c9).symm.trans hf
          refine lv_aload_n hx hb dX11_seatThatGoes_17 rfl (lv_at hl 0 rfl) ?_
          refine x_get hx hb hts hown hK hW (hI.2 0 (by decide)) uI_o (hI.1 0 _) rfl inX11 8 (by decide) t_748 rfl dX11_seatThatGoes_18 ?_
          refine lv_aload_n hx hb dX11_seatThatGoes_21 rfl (lv_at hl 0 rfl) ?_
          refine x_get hx hb hts hown hK hW (hI.2 0 (by decide)) uI_o (hI.1 0 _) rfl inX11 13 (by decide) t_753 rfl dX11_seatThatGoes_22 ?_
          refine lv_iconst (v := 0) hx hb dX11_seatThatGoes_25 (by decide) ?_
          obtain ⟨hi10, hf⟩ := wr_some hf
          refine x_zast hx hb hK hW (hI.2 6 (by decide)) uI_o (fun _ => (hI.1 6 _)) hi10 (by decide) uC_leaf dX11_seatThatGoes_26 (fun H locs hW => ?_)
          generalize (va_up g 6 (upd (g 6) ((g 0 13)).toNatClampNeg (0 : Int32))) = g11 at hf hW
          refine lv_aload_n hx hb dX11_seatThatGoes_27 rfl (lv_at hl 0 rfl) ?_
          refine lv_aload_n hx hb dX11_seatThatGoes_28 rfl (lv_at hl 0 rfl) ?_
          refine x_get hx hb hts hown hK hW (hI.2 0 (by decide)) uI_o (hI.1 0 _) rfl inX11 13 (by decide) t_753 rfl dX11_seatThatGoes_29 ?_
          refine lv_iconst (v := 1) hx hb dX11_seatThatGoes_32 (by decide) ?_
          refine lv_iadd hx hb dX11_seatThatGoes_33 ?_
          refine lv_iload_n hx hb dX11_seatThatGoes_34 rfl (lv_at hl 1 rfl) ?_
          obtain ⟨hz12, hf⟩ := nz_some hf
          refine lv_irem hx hb dX11_seatThatGoes_35 hz12 ?_
          replace hf := st_some hf
          refine x_put hx hb hts hown hK hW (hI.2 0 (by decide)) uI_o (hI.1 0 _) rfl inX11 tyX11 tyX11_ok nmX11 13 (by decide) t_753 rfl rfl (Nat.le_of_ble_eq_true rfl) (hI.1 0 _) uC_leaf dX11_seatThatGoes_36 (fun H locs hW => ?_)
          generalize (va_up g11 0 (upd (g11 0) 13 (((g11 0 13) + (1 : Int32)) - ((g11 0 13) + (1 : Int32)) / w2 * w2))) = g13 at hf hW
          refine lv_goto (tgt := 5) hx hb dX11_seatThatGoes_39 (by decide) ?_
          exact ih5 _ _ _ _ _ hf hW (lv_sub hl [0, 1] rfl)
    exact L5 NF _ _ _ _ _ hf hW (lv_sub hl [0, 2] rfl)
def f11_played_j122 (rec16 : Int32 → Int32 → Int32 → Int32 → Int32 → Sg → Option (Int32 × Sg)) (w1 : Int32) (w2 : Int32) (w4 : Int32) (w5 : Int32) (w6 : Int32) (w7 : Int32) (w8 : Int32) (g : Sg) : Option (Int32 × Sg) :=
  (wr 30 w8 (va_up g 5 (upd (g 5) (w8).toNatClampNeg w7)) (fun g25 => (wr 30 w8 (va_up g25 6 (upd (g25 6) (w8).toNatClampNeg (0 : Int32))) (fun g27 => (wr 30 w8 (va_up g27 7 (upd (g27 7) (w8).toNatClampNeg (1 : Int32))) (fun g29 => (wr 30 w8 (va_up g29 8 (upd (g29 8) (w8).toNatClampNeg w6)) (fun g31 => (wr 30 w8 (va_up g31 9 (upd (g31 9) (w8).toNatClampNeg w6)) (fun g33 => (rec16 w1 w2 w4 w5 (w6 + (1 : Int32)) g33)))))))))))
def f11_played_b16 (rec16 : Int32 → Int32 → Int32 → Int32 → Int32 → Sg → Option (Int32 × Sg)) (w1 : Int32) (w2 : Int32) (w4 : Int32) (w5 : Int32) (w6 : Int32) (g : Sg) : Option (Int32 × Sg) :=
  (if w4 ≤ w6 then (some (w5, g)) else (rd 1805 (g 1) ((1405 : Int32) + w6) (fun v5 => ((f11_seatOf g v5).bind (fun r7 => (if r7 < 0 then (if w2 ≤ (g 0 12) then (b2 (f11_seatThatGoes w1 w2 w6 w4 g) (fun r13 g12 => (f11_played_j122 rec16 w1 w2 w4 w5 w6 v5 r13 g12))) else (st (va_up g 0 (upd (g 0) 12 ((g 0 12) + (1 : Int32)))) (fun g15 => (f11_played_j122 rec16 w1 w2 w4 w5 w6 v5 (g 0 12) g15)))) else (wr 30 r7 (va_up g 6 (upd (g 6) (r7).toNatClampNeg (1 : Int32))) (fun g17 => (rd 30 (g17 7) r7 (fun v19 => (wr 30 r7 (va_up g17 7 (upd (g17 7) (r7).toNatClampNeg (v19 + (1 : Int32)))) (fun g21 => (wr 30 r7 (va_up g21 8 (upd (g21 8) (r7).toNatClampNeg w6)) (fun g23 => (rec16 w1 w2 w4 (w5 + (1 : Int32)) (w6 + (1 : Int32)) g23)))))))))))))))
def f11_played_l16 : Nat → Int32 → Int32 → Int32 → Int32 → Int32 → Sg → Option (Int32 × Sg)
  | 0 => fun _ _ _ _ _ _ => none
  | k + 1 => f11_played_b16 (f11_played_l16 k)
def f11_played (a1 : Int32) (a2 : Int32) (a3 : Int32) (a4 : Int32) (g : Sg) : Option (Int32 × Sg) :=
  (st (va_up g 0 (upd (g 0) 12 (0 : Int32))) (fun g1 => (st (va_up g1 0 (upd (g1 0) 13 (0 : Int32))) (fun g2 => (f11_played_l16 NF a1 a2 a4 (0 : Int32) a3 g2)))))
set_option maxHeartbeats 4000000 in
set_option maxRecDepth 100000 in
theorem f11_played_ok (l : Launch) (D : va_G) (cy : Nat → ClassId) (ad : Nat → Nat → Nat → Nat) (ns : List (Nat × Nat × Nat)) (M : Me) (t i : Nat) (hI : IsModel cy ad ns t i) (g : Sg) (a1 : Int32) (a2 : Int32) (a3 : Int32) (a4 : Int32) (r : Int32) (m2 : Sg)  (hf : f11_played a1 a2 a3 a4 g = some (r, m2)) : Ci l yX11_played (.code yX11_played cX11_played 9 (some .int) :: tk_tb) { frames := 3, cells := 0, slots := 0, locals := 77 } D cy ad ns [.ref (ad t i 0), .int a1, .int a2, .int a3, .int a4] (uI M t i g) r (uI M t i m2) := by
  refine Ci.of (by decide) (Nat.le_of_ble_eq_true rfl) ?_
  intro p e s m below meth c ls hE hW hl
  obtain ⟨hx, hb, hr, hml, hown, hts, hlk, hK⟩ := hE
  have hA : ∀ q : Nat, s.heap.size ≤ q → Aw ad ns s.heap.size q := fun q h => Or.inr h
  have hl : lv_has ls 9 [(0, .ref (ad t i 0)), (1, .int a1), (2, .int a2), (3, .int a3), (4, .int a4)] := hl
  unfold f11_played at hf
  refine lv_aload_n hx hb dX11_played_0 rfl (lv_at hl 0 rfl) ?_
  refine lv_iconst (v := 0) hx hb dX11_played_1 (by decide) ?_
  replace hf := st_some hf
  refine x_put hx hb hts hown hK hW (hI.2 0 (by decide)) uI_o (hI.1 0 _) rfl inX11 tyX11 tyX11_ok nmX11 12 (by decide) t_752 rfl rfl (Nat.le_of_ble_eq_true rfl) (hI.1 0 _) uC_leaf dX11_played_2 (fun H locs hW => ?_)
  generalize (va_up g 0 (upd (g 0) 12 (0 : Int32))) = g1 at hf hW
  refine lv_aload_n hx hb dX11_played_5 rfl (lv_at hl 0 rfl) ?_
  refine lv_iconst (v := 0) hx hb dX11_played_6 (by decide) ?_
  replace hf := st_some hf
  refine x_put hx hb hts hown hK hW (hI.2 0 (by decide)) uI_o (hI.1 0 _) rfl inX11 tyX11 tyX11_ok nmX11 13 (by decide) t_753 rfl rfl (Nat.le_of_ble_eq_true rfl) (hI.1 0 _) uC_leaf dX11_played_7 (fun H locs hW => ?_)
  generalize (va_up g1 0 (upd (g1 0) 13 (0 : Int32))) = g2 at hf hW
  refine lv_iconst (v := 0) hx hb dX11_played_10 (by decide) ?_
  refine lv_istore (lv' := [(5, .int (0 : Int32)), (0, .ref (ad t i 0)), (1, .int a1), (2, .int a2), (3, .int a3), (4, .int a4)]) hx hb dX11_played_11 hl (by decide) rfl (fun ls hl => ?_)
  refine lv_iload_n hx hb dX11_played_13 rfl (lv_at hl 4 rfl) ?_
  refine lv_istore (lv' := [(6, .int a3), (5, .int (0 : Int32)), (0, .ref (ad t i 0)), (1, .int a1), (2, .int a2), (3, .int a3), (4, .int a4)]) hx hb dX11_played_14 hl (by decide) rfl (fun ls hl => ?_)
  have L16 : ∀ (k : Nat) (w1 : Int32) (w2 : Int32) (w4 : Int32) (w5 : Int32) (w6 : Int32) (g : Sg) (H : Heap) (locs : List Loc) (ls : Array Slot), f11_played_l16 k w1 w2 w4 w5 w6 g = some (r, m2) → Wl D cy ad ns (Aw ad ns s.heap.size) s.heap (uI M t i g) H locs → lv_has ls 9 [(0, .ref (ad t i 0)), (1, .int w1), (2, .int w2), (4, .int w4), (5, .int w5), (6, .int w6)] → W p l e { frames := 3, cells := 0, slots := 0, locals := 77 } s m ([.ref (ad t i 0), .int a1, .int a2, .int a3, .int a4] : List Value).toArray below meth c H locs 0 0 (QI below D cy ad ns [.ref (ad t i 0), .int a1, .int a2, .int a3, .int a4] s r (uI M t i m2)) (F0 m 16 ls []) := by
    intro k
    induction k with
    | zero => intro w1 w2 w4 w5 w6 g H locs ls hf; exact absurd hf (by simp [f11_played_l16])
    | succ k16 ih16 =>
      intro w1 w2 w4 w5 w6 g H locs ls hf hW hl
      have hf : f11_played_b16 (f11_played_l16 k16) w1 w2 w4 w5 w6 g = some (r, m2) := hf
      unfold f11_played_b16 at hf
      have J122 : ∀ (w1 : Int32) (w2 : Int32) (w4 : Int32) (w5 : Int32) (w6 : Int32) (w7 : Int32) (w8 : Int32) (g : Sg) (H : Heap) (locs : List Loc) (ls : Array Slot), f11_played_j122 (f11_played_l16 k16) w1 w2 w4 w5 w6 w7 w8 g = some (r, m2) → Wl D cy ad ns (Aw ad ns s.heap.size) s.heap (uI M t i g) H locs → lv_has ls 9 [(0, .ref (ad t i 0)), (1, .int w1), (2, .int w2), (4, .int w4), (5, .int w5), (6, .int w6), (7, .int w7), (8, .int w8)] → W p l e { frames := 3, cells := 0, slots := 0, locals := 77 } s m ([.ref (ad t i 0), .int a1, .int a2, .int a3, .int a4] : List Value).toArray below meth c H locs 0 0 (QI below D cy ad ns [.ref (ad t i 0), .int a1, .int a2, .int a3, .int a4] s r (uI M t i m2)) (F0 m 122 ls []) := by
        intro w1 w2 w4 w5 w6 w7 w8 g H locs ls hf hW hl
        unfold f11_played_j122 at hf
        refine lv_aload_n hx hb dX11_played_122 rfl (lv_at hl 0 rfl) ?_
        refine x_get hx hb hts hown hK hW (hI.2 0 (by decide)) uI_o (hI.1 0 _) rfl inX11 7 (by decide) t_747 rfl dX11_played_123 ?_
        refine lv_iload hx hb dX11_played_126 (lv_at hl 7 rfl) ?_
        refine lv_iload hx hb dX11_played_128 (lv_at hl 6 rfl) ?_
        obtain ⟨hi24, hf⟩ := wr_some hf
        refine x_iast hx hb hK hW (hI.2 5 (by decide)) uI_o (fun _ => (hI.1 5 _)) hi24 uC_leaf dX11_played_130 (fun H locs hW => ?_)
        generalize (va_up g 5 (upd (g 5) (w8).toNatClampNeg w7)) = g25 at hf hW
        refine lv_aload_n hx hb dX11_played_131 rfl (lv_at hl 0 rfl) ?_
        refine x_get hx hb hts hown hK hW (hI.2 0 (by decide)) uI_o (hI.1 0 _) rfl inX11 8 (by decide) t_748 rfl dX11_played_132 ?_
        refine lv_iload hx hb dX11_played_135 (lv_at hl 7 rfl) ?_
        refine lv_iconst (v := 0) hx hb dX11_played_137 (by decide) ?_
        obtain ⟨hi26, hf⟩ := wr_some hf
        refine x_zast hx hb hK hW (hI.2 6 (by decide)) uI_o (fun _ => (hI.1 6 _)) hi26 (by decide) uC_leaf dX11_played_138 (fun H locs hW => ?_)
        generalize (va_up g25 6 (upd (g25 6) (w8).toNatClampNeg (0 : Int32))) = g27 at hf hW
        refine lv_aload_n hx hb dX11_played_139 rfl (lv_at hl 0 rfl) ?_
        refine x_get hx hb hts hown hK hW (hI.2 0 (by decide)) uI_o (hI.1 0 _) rfl inX11 9 (by decide) t_749 rfl dX11_played_140 ?_
        refine lv_iload hx hb dX11_played_143 (lv_at hl 7 rfl) ?_
        refine lv_iconst (v := 1) hx hb dX11_played_145 (by decide) ?_
        obtain ⟨hi28, hf⟩ := wr_some hf
        refine x_iast hx hb hK hW (hI.2 7 (by decide)) uI_o (fun _ => (hI.1 7 _)) hi28 uC_leaf dX11_played_146 (fun H locs hW => ?_)
        generalize (va_up g27 7 (upd (g27 7) (w8).toNatClampNeg (1 : Int32))) = g29 at hf hW
        refine lv_aload_n hx hb dX11_played_147 rfl (lv_at hl 0 rfl) ?_
        refine x_get hx hb hts hown hK hW (hI.2 0 (by decide)) uI_o (hI.1 0 _) rfl inX11 10 (by decide) t_750 rfl dX11_played_148 ?_
        refine lv_iload hx hb dX11_played_151 (lv_at hl 7 rfl) ?_
        refine lv_iload hx hb dX11_played_153 (lv_at hl 5 rfl) ?_
        obtain ⟨hi30, hf⟩ := wr_some hf
        refine x_iast hx hb hK hW (hI.2 8 (by decide)) uI_o (fun _ => (hI.1 8 _)) hi30 uC_leaf dX11_played_155 (fun H locs hW => ?_)
        generalize (va_up g29 8 (upd (g29 8) (w8).toNatClampNeg w6)) = g31 at hf hW
        refine lv_aload_n hx hb dX11_played_156 rfl (lv_at hl 0 rfl) ?_
        refine x_get hx hb hts hown hK hW (hI.2 0 (by decide)) uI_o (hI.1 0 _) rfl inX11 11 (by decide) t_751 rfl dX11_played_157 ?_
        refine lv_iload hx hb dX11_played_160 (lv_at hl 7 rfl) ?_
        refine lv_iload hx hb dX11_played_162 (lv_at hl 5 rfl) ?_
        obtain ⟨hi32, hf⟩ := wr_some hf
        refine x_iast hx hb hK hW (hI.2 9 (by decide)) uI_o (fun _ => (hI.1 9 _)) hi32 uC_leaf dX11_played_164 (fun H locs hW => ?_)
        generalize (va_up g31 9 (upd (g31 9) (w8).toNatClampNeg w6)) = g33 at hf hW
        refine lv_iinc (v := (w6 + (1 : Int32))) (lv' := [(6, .int (w6 + (1 : Int32))), (0, .ref (ad t i 0)), (1, .int w1), (2, .int w2), (4, .int w4), (5, .int w5), (7, .int w7), (8, .int w8)]) hx hb dX11_played_165 hl (k := 5) rfl (by first | rfl | decide) (by decide) rfl (fun ls hl => ?_)
        refine lv_goto (tgt := 16) hx hb dX11_played_168 (by decide) ?_
        exact ih16 _ _ _ _ _ _ _ _ _ hf hW (lv_sub hl [1, 2, 3, 4, 5, 0] rfl)
      refine lv_iload hx hb dX11_played_16 (lv_at hl 5 rfl) ?_
      refine lv_iload hx hb dX11_played_18 (lv_at hl 3 rfl) ?_
      refine lv_icmp_ge (tgt := 171) hx hb dX11_played_20 (by decide) (fun c3 => ?_) (fun c3 => ?_)
      · replace hf := (if_pos c3).symm.trans hf
        refine lv_iload hx hb dX11_played_171 (lv_at hl 4 rfl) ?_
        exact x_iret hx hb hr hlk hK hW (congrArg Prod.fst (Option.some.inj hf)) (congrArg (fun q => (uI M t i (Prod.snd q))) (Option.some.inj hf)) dX11_played_173
      · replace hf := (if_neg c3).symm.trans hf
        refine lv_aload_n hx hb dX11_played_23 rfl (lv_at hl 0 rfl) ?_
        refine x_get hx hb hts hown hK hW (hI.2 0 (by decide)) uI_o (hI.1 0 _) rfl inX11 2 (by decide) t_742 rfl dX11_played_24 ?_
        refine lv_sipush (v := 1405) hx hb dX11_played_27 (by decide) ?_
        refine lv_iload hx hb dX11_played_30 (lv_at hl 5 rfl) ?_
        refine lv_iadd hx hb dX11_played_32 ?_
        obtain ⟨hi4, hf⟩ := rd_some hf
        refine x_iald hx hb hK hW (hI.2 1 (by decide)) uI_o (hI.1 1 _) hi4 dX11_played_33 ?_
        generalize g 1 (((1405 : Int32) + w6)).toNatClampNeg = v5 at hf ⊢
        refine lv_istore (lv' := [(7, .int v5), (0, .ref (ad t i 0)), (1, .int w1), (2, .int w2), (4, .int w4), (5, .int w5), (6, .int w6)]) hx hb dX11_played_34 hl (by decide) rfl (fun ls hl => ?_)
        refine lv_aload_n hx hb dX11_played_36 rfl (lv_at hl 1 rfl) ?_
        refine lv_iload hx hb dX11_played_37 (lv_at hl 0 rfl) ?_
        obtain ⟨r7, hc6, hf⟩ := bd_some hf
        have hC8 := f11_seatOf_ok l D cy ad ns M t i hI g v5 r7 hc6
        refine x_vi (n := 1) (As := [.int v5]) (rest := []) hx hb hml hts hown hK hW hA hC8 (hI.2 0 (by decide)) uI_o (hI.1 0 _) rfl rfl t_971 t_973 p_52 t_14 t_974 rfl (by decide +kernel) rfl rfl ⟨Nat.le_of_ble_eq_true rfl, Nat.le_of_ble_eq_true rfl⟩ hl.1 rfl (lv_room (Nat.le_of_ble_eq_true rfl)) dX11_played_39 ⟨(Nat.le_of_ble_eq_true rfl), (Nat.le_of_ble_eq_true rfl)⟩ (fun H locs hW => ?_)
        refine lv_istore (lv' := [(8, .int r7), (7, .int v5), (0, .ref (ad t i 0)), (1, .int w1), (2, .int w2), (4, .int w4), (5, .int w5), (6, .int w6)]) hx hb dX11_played_42 hl (by decide) rfl (fun ls hl => ?_)
        refine lv_iload hx hb dX11_played_44 (lv_at hl 0 rfl) ?_
        refine lv_if_lt (tgt := 83) hx hb dX11_played_46 (by decide) (fun c9 => ?_) (fun c9 => ?_)
        · replace hf := (if_pos c9).symm.trans hf
          refine lv_aload_n hx hb dX11_played_83 rfl (lv_at hl 2 rfl) ?_
          refine x_get hx hb hts hown hK hW (hI.2 0 (by decide)) uI_o (hI.1 0 _) rfl inX11 12 (by decide) t_752 rfl dX11_played_84 ?_
          refine lv_iload_n hx hb dX11_played_87 rfl (lv_at hl 4 rfl) ?_
          refine lv_icmp_ge (tgt := 110) hx hb dX11_played_88 (by decide) (fun c10 => ?_) (fun c10 => ?_)
          · replace hf := (if_pos c10).symm.trans hf
            refine lv_aload_n hx hb dX11_played_110 rfl (lv_at hl 2 rfl) ?_
            refine lv_iload_n hx hb dX11_played_111 rfl (lv_at hl 3 rfl) ?_
            refine lv_iload_n hx hb dX11_played_112 rfl (lv_at hl 4 rfl) ?_
            refine lv_iload hx hb dX11_played_113 (lv_at hl 7 rfl) ?_
            refine lv_iload hx hb dX11_played_115 (lv_at hl 5 rfl) ?_
            obtain ⟨r13, g12, hc11, hf⟩ := b2_some hf
            have hC14 := f11_seatThatGoes_ok l D cy ad ns M t i hI g w1 w2 w6 w4 r13 g12 hc11
            refine x_vi (n := 4) (As := [.int w1, .int w2, .int w6, .int w4]) (rest := []) hx hb hml hts hown hK hW hA hC14 (hI.2 0 (by decide)) uI_o (hI.1 0 _) rfl rfl t_975 t_977 p_53 t_14 t_978 rfl (by decide +kernel) rfl rfl ⟨Nat.le_of_ble_eq_true rfl, Nat.le_of_ble_eq_true rfl⟩ hl.1 rfl (lv_room (Nat.le_of_ble_eq_true rfl)) dX11_played_117 ⟨(Nat.le_of_ble_eq_true rfl), (Nat.le_of_ble_eq_true rfl)⟩ (fun H locs hW => ?_)
            refine lv_istore (lv' := [(8, .int r13), (7, .int v5), (0, .ref (ad t i 0)), (1, .int w1), (2, .int w2), (4, .int w4), (5, .int w5), (6, .int w6)]) hx hb dX11_played_120 hl (by decide) rfl (fun ls hl => ?_)
            exact J122 _ _ _ _ _ _ _ _ _ _ _ hf hW (lv_sub hl [2, 3, 4, 5, 6, 7, 1, 0] rfl)
          · replace hf := (if_neg c10).symm.trans hf
            refine lv_aload_n hx hb dX11_played_91 rfl (lv_at hl 2 rfl) ?_
            refine x_get hx hb hts hown hK hW (hI.2 0 (by decide)) uI_o (hI.1 0 _) rfl inX11 12 (by decide) t_752 rfl dX11_played_92 ?_
            refine lv_istore (lv' := [(8, .int (g 0 12)), (7, .int v5), (0, .ref (ad t i 0)), (1, .int w1), (2, .int w2), (4, .int w4), (5, .int w5), (6, .int w6)]) hx hb dX11_played_95 hl (by decide) rfl (fun ls hl => ?_)
            refine lv_aload_n hx hb dX11_played_97 rfl (lv_at hl 2 rfl) ?_
            refine lv_dup hx hb dX11_played_98 rfl ?_
            refine x_get hx hb hts hown hK hW (hI.2 0 (by decide)) uI_o (hI.1 0 _) rfl inX11 12 (by decide) t_752 rfl dX11_played_99 ?_
            refine lv_iconst (v := 1) hx hb dX11_played_102 (by decide) ?_
            refine lv_iadd hx hb dX11_played_103 ?_
            replace hf := st_some hf
            refine x_put hx hb hts hown hK hW (hI.2 0 (by decide)) uI_o (hI.1 0 _) rfl inX11 tyX11 tyX11_ok nmX11 12 (by decide) t_752 rfl rfl (Nat.le_of_ble_eq_true rfl) (hI.1 0 _) uC_leaf dX11_played_104 (fun H locs hW => ?_)
            generalize (va_up g 0 (upd (g 0) 12 ((g 0 12) + (1 : Int32)))) = g15 at hf hW
            refine lv_goto (tgt := 122) hx hb dX11_played_107 (by decide) ?_
            exact J122 _ _ _ _ _ _ _ _ _ _ _ hf hW (lv_sub hl [2, 3, 4, 5, 6, 7, 1, 0] rfl)
        · replace hf := (if_neg c9).symm.trans hf
          refine lv_iinc (v := (w5 + (1 : Int32))) (lv' := [(5, .int (w5 + (1 : Int32))), (8, .int r7), (7, .int v5), (0, .ref (ad t i 0)), (1, .int w1), (2, .int w2), (4, .int w4), (6, .int w6)]) hx hb dX11_played_49 hl (k := 6) rfl (by first | rfl | decide) (by decide) rfl (fun ls hl => ?_)
          refine lv_aload_n hx hb dX11_played_52 rfl (lv_at hl 3 rfl) ?_
          refine x_get hx hb hts hown hK hW (hI.2 0 (by decide)) uI_o (hI.1 0 _) rfl inX11 8 (by decide) t_748 rfl dX11_played_53 ?_
          refine lv_iload hx hb dX11_played_56 (lv_at hl 1 rfl) ?_
          refine lv_iconst (v := 1) hx hb dX11_played_58 (by decide) ?_
          obtain ⟨hi16, hf⟩ := wr_some hf
          refine x_zast hx hb hK hW (hI.2 6 (by decide)) uI_o (fun _ => (hI.1 6 _)) hi16 (by decide) uC_leaf dX11_played_59 (fun H locs hW => ?_)
          generalize (va_up g 6 (upd (g 6) (r7).toNatClampNeg (1 : Int32))) = g17 at hf hW
          refine lv_aload_n hx hb dX11_played_60 rfl (lv_at hl 3 rfl) ?_
          refine x_get hx hb hts hown hK hW (hI.2 0 (by decide)) uI_o (hI.1 0 _) rfl inX11 9 (by decide) t_749 rfl dX11_played_61 ?_
          refine lv_iload hx hb dX11_played_64 (lv_at hl 1 rfl) ?_
          refine lv_dup2_11 hx hb dX11_played_66 rfl rfl ?_
          obtain ⟨hi18, hf⟩ := rd_some hf
          refine x_iald hx hb hK hW (hI.2 7 (by decide)) uI_o (hI.1 7 _) hi18 dX11_played_67 ?_
          generalize g17 7 (r7).toNatClampNeg = v19 at hf ⊢
          refine lv_iconst (v := 1) hx hb dX11_played_68 (by decide) ?_
          refine lv_iadd hx hb dX11_played_69 ?_
          obtain ⟨hi20, hf⟩ := wr_some hf
          refine x_iast hx hb hK hW (hI.2 7 (by decide)) uI_o (fun _ => (hI.1 7 _)) hi20 uC_leaf dX11_played_70 (fun H locs hW => ?_)
          generalize (va_up g17 7 (upd (g17 7) (r7).toNatClampNeg (v19 + (1 : Int32)))) = g21 at hf hW
          refine lv_aload_n hx hb dX11_played_71 rfl (lv_at hl 3 rfl) ?_
          refine x_get hx hb hts hown hK hW (hI.2 0 (by decide)) uI_o (hI.1 0 _) rfl inX11 10 (by decide) t_750 rfl dX11_played_72 ?_
          refine lv_iload hx hb dX11_played_75 (lv_at hl 1 rfl) ?_
          refine lv_iload hx hb dX11_played_77 (lv_at hl 7 rfl) ?_
          obtain ⟨hi22, hf⟩ := wr_some hf
          refine x_iast hx hb hK hW (hI.2 8 (by decide)) uI_o (fun _ => (hI.1 8 _)) hi22 uC_leaf dX11_played_79 (fun H locs hW => ?_)
          generalize (va_up g21 8 (upd (g21 8) (r7).toNatClampNeg w6)) = g23 at hf hW
          refine lv_goto (tgt := 165) hx hb dX11_played_80 (by decide) ?_
          refine lv_iinc (v := (w6 + (1 : Int32))) (lv' := [(6, .int (w6 + (1 : Int32))), (5, .int (w5 + (1 : Int32))), (8, .int r7), (7, .int v5), (0, .ref (ad t i 0)), (1, .int w1), (2, .int w2), (4, .int w4)]) hx hb dX11_played_165 hl (k := 7) rfl (by first | rfl | decide) (by decide) rfl (fun ls hl => ?_)
          refine lv_goto (tgt := 16) hx hb dX11_played_168 (by decide) ?_
          exact ih16 _ _ _ _ _ _ _ _ _ hf hW (lv_sub hl [4, 5, 6, 7, 1, 0] rfl)
  exact L16 NF _ _ _ _ _ _ _ _ _ hf hW (lv_sub hl [2, 3, 4, 6, 1, 0] rfl)
def f11_indexIn_b2 (g : Sg) (rec2 : Int32 → Int32 → Int32 → Option Int32) (w1 : Int32) (w2 : Int32) (w3 : Int32) : Option Int32 :=
  (rd 4 (g 11) w1 (fun v2 => (if v2 ≤ w3 then (some (-1 : Int32)) else (rd 256 (g 10) (((64 : Int32) * w1) + w3) (fun v5 => (if v5 = w2 then (some w3) else (rec2 w1 w2 (w3 + (1 : Int32)))))))))
def f11_indexIn_l2 (g : Sg) : Nat → Int32 → Int32 → Int32 → Option Int32
  | 0 => fun _ _ _ => none
  | k + 1 => f11_indexIn_b2 g (f11_indexIn_l2 g k)
def f11_indexIn (g : Sg) (a1 : Int32) (a2 : Int32) : Option Int32 :=
  (f11_indexIn_l2 g NF a1 a2 (0 : Int32))
set_option maxHeartbeats 4000000 in
set_option maxRecDepth 100000 in
theorem f11_indexIn_ok (l : Launch) (D : va_G) (cy : Nat → ClassId) (ad : Nat → Nat → Nat → Nat) (ns : List (Nat × Nat × Nat)) (M : Me) (t i : Nat) (hI : IsModel cy ad ns t i) (g : Sg) (a1 : Int32) (a2 : Int32) (r : Int32)  (hf : f11_indexIn g a1 a2 = some r) : Ci l yX11_indexIn (.code yX11_indexIn cX11_indexIn 4 (some .int) :: tk_tb) { frames := 0, cells := 0, slots := 0, locals := 0 } D cy ad ns [.ref (ad t i 0), .int a1, .int a2] (uI M t i g) r (uI M t i g) := by
  refine Ci.of (by decide) (Nat.le_of_ble_eq_true rfl) ?_
  intro p e s m below meth c ls hE hW hl
  obtain ⟨hx, hb, hr, hml, hown, hts, hlk, hK⟩ := hE
  have hA : ∀ q : Nat, s.heap.size ≤ q → Aw ad ns s.heap.size q := fun q h => Or.inr h
  have hl : lv_has ls 4 [(0, .ref (ad t i 0)), (1, .int a1), (2, .int a2)] := hl
  unfold f11_indexIn at hf
  refine lv_iconst (v := 0) hx hb dX11_indexIn_0 (by decide) ?_
  refine lv_istore_n (lv' := [(3, .int (0 : Int32)), (0, .ref (ad t i 0)), (1, .int a1), (2, .int a2)]) hx hb dX11_indexIn_1 rfl hl (by decide) rfl (fun ls hl => ?_)
  have L2 : ∀ (k : Nat) (w1 : Int32) (w2 : Int32) (w3 : Int32) (H : Heap) (locs : List Loc) (ls : Array Slot), f11_indexIn_l2 g k w1 w2 w3 = some r → Wl D cy ad ns (Aw ad ns s.heap.size) s.heap (uI M t i g) H locs → lv_has ls 4 [(0, .ref (ad t i 0)), (1, .int w1), (2, .int w2), (3, .int w3)] → W p l e { frames := 0, cells := 0, slots := 0, locals := 0 } s m ([.ref (ad t i 0), .int a1, .int a2] : List Value).toArray below meth c H locs 0 0 (QI below D cy ad ns [.ref (ad t i 0), .int a1, .int a2] s r (uI M t i g)) (F0 m 2 ls []) := by
    intro k
    induction k with
    | zero => intro w1 w2 w3 H locs ls hf; exact absurd hf (by simp [f11_indexIn_l2])
    | succ k2 ih2 =>
      intro w1 w2 w3 H locs ls hf hW hl
      have hf : f11_indexIn_b2 g (f11_indexIn_l2 g k2) w1 w2 w3 = some r := hf
      unfold f11_indexIn_b2 at hf
      refine lv_iload_n hx hb dX11_indexIn_2 rfl (lv_at hl 3 rfl) ?_
      refine lv_aload_n hx hb dX11_indexIn_3 rfl (lv_at hl 0 rfl) ?_
      refine x_get hx hb hts hown hK hW (hI.2 0 (by decide)) uI_o (hI.1 0 _) rfl inX11 15 (by decide) t_755 rfl dX11_indexIn_4 ?_
      refine lv_iload_n hx hb dX11_indexIn_7 rfl (lv_at hl 1 rfl) ?_
      obtain ⟨hi1, hf⟩ := rd_some hf
      refine x_iald hx hb hK hW (hI.2 11 (by decide)) uI_o (hI.1 11 _) hi1 dX11_indexIn_8 ?_
      generalize g 11 (w1).toNatClampNeg = v2 at hf ⊢
      refine lv_icmp_ge (tgt := 35) hx hb dX11_indexIn_9 (by decide) (fun c3 => ?_) (fun c3 => ?_)
      · replace hf := (if_pos c3).symm.trans hf
        refine lv_iconst (v := -1) hx hb dX11_indexIn_35 (by decide) ?_
        exact x_iret hx hb hr hlk hK hW (Option.some.inj hf) rfl dX11_indexIn_36
      · replace hf := (if_neg c3).symm.trans hf
        refine lv_aload_n hx hb dX11_indexIn_12 rfl (lv_at hl 0 rfl) ?_
        refine x_get hx hb hts hown hK hW (hI.2 0 (by decide)) uI_o (hI.1 0 _) rfl inX11 14 (by decide) t_754 rfl dX11_indexIn_13 ?_
        refine lv_bipush (v := 64) hx hb dX11_indexIn_16 (by decide) ?_
        refine lv_iload_n hx hb dX11_indexIn_18 rfl (lv_at hl 1 rfl) ?_
        refine lv_imul hx hb dX11_indexIn_19 ?_
        refine lv_iload_n hx hb dX11_indexIn_20 rfl (lv_at hl 3 rfl) ?_
        refine lv_iadd hx hb dX11_indexIn_21 ?_
        obtain ⟨hi4, hf⟩ := rd_some hf
        refine x_iald hx hb hK hW (hI.2 10 (by decide)) uI_o (hI.1 10 _) hi4 dX11_indexIn_22 ?_
        generalize g 10 ((((64 : Int32) * w1) + w3)).toNatClampNeg = v5 at hf ⊢
        refine lv_iload_n hx hb dX11_indexIn_23 rfl (lv_at hl 2 rfl) ?_
        refine lv_icmp_ne (tgt := 29) hx hb dX11_indexIn_24 (by decide) (fun c6 => ?_) (fun c6 => ?_)
        · replace hf := (if_neg c6).symm.trans hf
          refine lv_iinc (v := (w3 + (1 : Int32))) (lv' := [(3, .int (w3 + (1 : Int32))), (0, .ref (ad t i 0)), (1, .int w1), (2, .int w2)]) hx hb dX11_indexIn_29 hl (k := 3) rfl (by first | rfl | decide) (by decide) rfl (fun ls hl => ?_)
          refine lv_goto (tgt := 2) hx hb dX11_indexIn_32 (by decide) ?_
          exact ih2 _ _ _ _ _ _ hf hW (lv_sub hl [1, 2, 3, 0] rfl)
        · replace hf := (if_pos c6).symm.trans hf
          refine lv_iload_n hx hb dX11_indexIn_27 rfl (lv_at hl 3 rfl) ?_
          exact x_iret hx hb hr hlk hK hW (Option.some.inj hf) rfl dX11_indexIn_28
  exact L2 NF _ _ _ _ _ _ hf hW (lv_sub hl [1, 2, 3, 0] rfl)
def f11_join (a1 : Int32) (a2 : Int32) (g : Sg) : Option Sg :=
  (rd 4 (g 11) a1 (fun v2 => (wr 256 (((64 : Int32) * a1) + v2) (va_up g 10 (upd (g 10) ((((64 : Int32) * a1) + v2)).toNatClampNeg a2)) (fun g4 => (rd 4 (g4 11) a1 (fun v6 => (wr 4 a1 (va_up g4 11 (upd (g4 11) (a1).toNatClampNeg (v6 + (1 : Int32)))) (fun g8 => (some g8)))))))))
set_option maxHeartbeats 4000000 in
set_option maxRecDepth 100000 in
theorem f11_join_ok (l : Launch) (D : va_G) (cy : Nat → ClassId) (ad : Nat → Nat → Nat → Nat) (ns : List (Nat × Nat × Nat)) (M : Me) (t i : Nat) (hI : IsModel cy ad ns t i) (g : Sg) (a1 : Int32) (a2 : Int32) (m2 : Sg)  (hf : f11_join a1 a2 g = some m2) : Cv l yX11_join (.code yX11_join cX11_join 3 none :: tk_tb) { frames := 0, cells := 0, slots := 0, locals := 0 } D cy ad ns [.ref (ad t i 0), .int a1, .int a2] (uI M t i g) (uI M t i m2) := by
  refine Cv.of (by decide) (Nat.le_of_ble_eq_true rfl) ?_
  intro p e s m below meth c ls hE hW hl
  obtain ⟨hx, hb, hr, hml, hown, hts, hlk, hK⟩ := hE
  have hA : ∀ q : Nat, s.heap.size ≤ q → Aw ad ns s.heap.size q := fun q h => Or.inr h
  have hl : lv_has ls 3 [(0, .ref (ad t i 0)), (1, .int a1), (2, .int a2)] := hl
  unfold f11_join at hf
  refine lv_aload_n hx hb dX11_join_0 rfl (lv_at hl 0 rfl) ?_
  refine x_get hx hb hts hown hK hW (hI.2 0 (by decide)) uI_o (hI.1 0 _) rfl inX11 14 (by decide) t_754 rfl dX11_join_1 ?_
  refine lv_bipush (v := 64) hx hb dX11_join_4 (by decide) ?_
  refine lv_iload_n hx hb dX11_join_6 rfl (lv_at hl 1 rfl) ?_
  refine lv_imul hx hb dX11_join_7 ?_
  refine lv_aload_n hx hb dX11_join_8 rfl (lv_at hl 0 rfl) ?_
  refine x_get hx hb hts hown hK hW (hI.2 0 (by decide)) uI_o (hI.1 0 _) rfl inX11 15 (by decide) t_755 rfl dX11_join_9 ?_
  refine lv_iload_n hx hb dX11_join_12 rfl (lv_at hl 1 rfl) ?_
  obtain ⟨hi1, hf⟩ := rd_some hf
  refine x_iald hx hb hK hW (hI.2 11 (by decide)) uI_o (hI.1 11 _) hi1 dX11_join_13 ?_
  generalize g 11 (a1).toNatClampNeg = v2 at hf ⊢
  refine lv_iadd hx hb dX11_join_14 ?_
  refine lv_iload_n hx hb dX11_join_15 rfl (lv_at hl 2 rfl) ?_
  obtain ⟨hi3, hf⟩ := wr_some hf
  refine x_iast hx hb hK hW (hI.2 10 (by decide)) uI_o (fun _ => (hI.1 10 _)) hi3 uC_leaf dX11_join_16 (fun H locs hW => ?_)
  generalize (va_up g 10 (upd (g 10) ((((64 : Int32) * a1) + v2)).toNatClampNeg a2)) = g4 at hf hW
  refine lv_aload_n hx hb dX11_join_17 rfl (lv_at hl 0 rfl) ?_
  refine x_get hx hb hts hown hK hW (hI.2 0 (by decide)) uI_o (hI.1 0 _) rfl inX11 15 (by decide) t_755 rfl dX11_join_18 ?_
  refine lv_iload_n hx hb dX11_join_21 rfl (lv_at hl 1 rfl) ?_
  refine lv_dup2_11 hx hb dX11_join_22 rfl rfl ?_
  obtain ⟨hi5, hf⟩ := rd_some hf
  refine x_iald hx hb hK hW (hI.2 11 (by decide)) uI_o (hI.1 11 _) hi5 dX11_join_23 ?_
  generalize g4 11 (a1).toNatClampNeg = v6 at hf ⊢
  refine lv_iconst (v := 1) hx hb dX11_join_24 (by decide) ?_
  refine lv_iadd hx hb dX11_join_25 ?_
  obtain ⟨hi7, hf⟩ := wr_some hf
  refine x_iast hx hb hK hW (hI.2 11 (by decide)) uI_o (fun _ => (hI.1 11 _)) hi7 uC_leaf dX11_join_26 (fun H locs hW => ?_)
  generalize (va_up g4 11 (upd (g4 11) (a1).toNatClampNeg (v6 + (1 : Int32)))) = g8 at hf hW
  exact x_vret hx hb hr hlk hK hW (congrArg (fun q => (uI M t i q)) (Option.some.inj hf)) dX11_join_27
def f11_leave_j60 (w1 : Int32) (w3 : Int32) (g : Sg) : Option (Int32 × Sg) :=
  (rd 4 (g 11) w1 (fun v11 => (wr 4 w1 (va_up g 11 (upd (g 11) (w1).toNatClampNeg (v11 - (1 : Int32)))) (fun g13 => (some (w3, g13))))))
def f11_leave_b17 (rec17 : Int32 → Int32 → Int32 → Sg → Option (Int32 × Sg)) (w1 : Int32) (w3 : Int32) (w4 : Int32) (g : Sg) : Option (Int32 × Sg) :=
  (rd 4 (g 11) w1 (fun v4 => (if v4 ≤ w4 then (f11_leave_j60 w1 w3 g) else (rd 256 (g 10) (((64 : Int32) * w1) + w4) (fun v7 => (wr 256 ((((64 : Int32) * w1) + w4) - (1 : Int32)) (va_up g 10 (upd (g 10) (((((64 : Int32) * w1) + w4) - (1 : Int32))).toNatClampNeg v7)) (fun g9 => (rec17 w1 w3 (w4 + (1 : Int32)) g9))))))))
def f11_leave_l17 : Nat → Int32 → Int32 → Int32 → Sg → Option (Int32 × Sg)
  | 0 => fun _ _ _ _ => none
  | k + 1 => f11_leave_b17 (f11_leave_l17 k)
def f11_leave (a1 : Int32) (a2 : Int32) (g : Sg) : Option (Int32 × Sg) :=
  (rd 256 (g 10) (((64 : Int32) * a1) + a2) (fun v2 => (f11_leave_l17 NF a1 v2 (a2 + (1 : Int32)) g)))
set_option maxHeartbeats 4000000 in
set_option maxRecDepth 100000 in
theorem f11_leave_ok (l : Launch) (D : va_G) (cy : Nat → ClassId) (ad : Nat → Nat → Nat → Nat) (ns : List (Nat × Nat × Nat)) (M : Me) (t i : Nat) (hI : IsModel cy ad ns t i) (g : Sg) (a1 : Int32) (a2 : Int32) (r : Int32) (m2 : Sg)  (hf : f11_leave a1 a2 g = some (r, m2)) : Ci l yX11_leave (.code yX11_leave cX11_leave 5 (some .int) :: tk_tb) { frames := 0, cells := 0, slots := 0, locals := 0 } D cy ad ns [.ref (ad t i 0), .int a1, .int a2] (uI M t i g) r (uI M t i m2) := by
  refine Ci.of (by decide) (Nat.le_of_ble_eq_true rfl) ?_
  intro p e s m below meth c ls hE hW hl
  obtain ⟨hx, hb, hr, hml, hown, hts, hlk, hK⟩ := hE
  have hA : ∀ q : Nat, s.heap.size ≤ q → Aw ad ns s.heap.size q := fun q h => Or.inr h
  have hl : lv_has ls 5 [(0, .ref (ad t i 0)), (1, .int a1), (2, .int a2)] := hl
  unfold f11_leave at hf
  have J60 : ∀ (w1 : Int32) (w3 : Int32) (g : Sg) (H : Heap) (locs : List Loc) (ls : Array Slot), f11_leave_j60 w1 w3 g = some (r, m2) → Wl D cy ad ns (Aw ad ns s.heap.size) s.heap (uI M t i g) H locs → lv_has ls 5 [(0, .ref (ad t i 0)), (1, .int w1), (3, .int w3)] → W p l e { frames := 0, cells := 0, slots := 0, locals := 0 } s m ([.ref (ad t i 0), .int a1, .int a2] : List Value).toArray below meth c H locs 0 0 (QI below D cy ad ns [.ref (ad t i 0), .int a1, .int a2] s r (uI M t i m2)) (F0 m 60 ls []) := by
    intro w1 w3 g H locs ls hf hW hl
    unfold f11_leave_j60 at hf
    refine lv_aload_n hx hb dX11_leave_60 rfl (lv_at hl 0 rfl) ?_
    refine x_get hx hb hts hown hK hW (hI.2 0 (by decide)) uI_o (hI.1 0 _) rfl inX11 15 (by decide) t_755 rfl dX11_leave_61 ?_
    refine lv_iload_n hx hb dX11_leave_64 rfl (lv_at hl 1 rfl) ?_
    refine lv_dup2_11 hx hb dX11_leave_65 rfl rfl ?_
    obtain ⟨hi10, hf⟩ := rd_some hf
    refine x_iald hx hb hK hW (hI.2 11 (by decide)) uI_o (hI.1 11 _) hi10 dX11_leave_66 ?_
    generalize g 11 (w1).toNatClampNeg = v11 at hf ⊢
    refine lv_iconst (v := 1) hx hb dX11_leave_67 (by decide) ?_
    refine lv_isub hx hb dX11_leave_68 ?_
    obtain ⟨hi12, hf⟩ := wr_some hf
    refine x_iast hx hb hK hW (hI.2 11 (by decide)) uI_o (fun _ => (hI.1 11 _)) hi12 uC_leaf dX11_leave_69 (fun H locs hW => ?_)
    generalize (va_up g 11 (upd (g 11) (w1).toNatClampNeg (v11 - (1 : Int32)))) = g13 at hf hW
    refine lv_iload_n hx hb dX11_leave_70 rfl (lv_at hl 2 rfl) ?_
    exact x_iret hx hb hr hlk hK hW (congrArg Prod.fst (Option.some.inj hf)) (congrArg (fun q => (uI M t i (Prod.snd q))) (Option.some.inj hf)) dX11_leave_71
  refine lv_aload_n hx hb dX11_leave_0 rfl (lv_at hl 0 rfl) ?_
  refine x_get hx hb hts hown hK hW (hI.2 0 (by decide)) uI_o (hI.1 0 _) rfl inX11 14 (by decide) t_754 rfl dX11_leave_1 ?_
  refine lv_bipush (v := 64) hx hb dX11_leave_4 (by decide) ?_
  refine lv_iload_n hx hb dX11_leave_6 rfl (lv_at hl 1 rfl) ?_
  refine lv_imul hx hb dX11_leave_7 ?_
  refine lv_iload_n hx hb dX11_leave_8 rfl (lv_at hl 2 rfl) ?_
  refine lv_iadd hx hb dX11_leave_9 ?_
  obtain ⟨hi1, hf⟩ := rd_some hf
  refine x_iald hx hb hK hW (hI.2 10 (by decide)) uI_o (hI.1 10 _) hi1 dX11_leave_10 ?_
  generalize g 10 ((((64 : Int32) * a1) + a2)).toNatClampNeg = v2 at hf ⊢
  refine lv_istore_n (lv' := [(3, .int v2), (0, .ref (ad t i 0)), (1, .int a1), (2, .int a2)]) hx hb dX11_leave_11 rfl hl (by decide) rfl (fun ls hl => ?_)
  refine lv_iload_n hx hb dX11_leave_12 rfl (lv_at hl 3 rfl) ?_
  refine lv_iconst (v := 1) hx hb dX11_leave_13 (by decide) ?_
  refine lv_iadd hx hb dX11_leave_14 ?_
  refine lv_istore (lv' := [(4, .int (a2 + (1 : Int32))), (3, .int v2), (0, .ref (ad t i 0)), (1, .int a1), (2, .int a2)]) hx hb dX11_leave_15 hl (by decide) rfl (fun ls hl => ?_)
  have L17 : ∀ (k : Nat) (w1 : Int32) (w3 : Int32) (w4 : Int32) (g : Sg) (H : Heap) (locs : List Loc) (ls : Array Slot), f11_leave_l17 k w1 w3 w4 g = some (r, m2) → Wl D cy ad ns (Aw ad ns s.heap.size) s.heap (uI M t i g) H locs → lv_has ls 5 [(0, .ref (ad t i 0)), (1, .int w1), (3, .int w3), (4, .int w4)] → W p l e { frames := 0, cells := 0, slots := 0, locals := 0 } s m ([.ref (ad t i 0), .int a1, .int a2] : List Value).toArray below meth c H locs 0 0 (QI below D cy ad ns [.ref (ad t i 0), .int a1, .int a2] s r (uI M t i m2)) (F0 m 17 ls []) := by
    intro k
    induction k with
    | zero => intro w1 w3 w4 g H locs ls hf; exact absurd hf (by simp [f11_leave_l17])
    | succ k17 ih17 =>
      intro w1 w3 w4 g H locs ls hf hW hl
      have hf : f11_leave_b17 (f11_leave_l17 k17) w1 w3 w4 g = some (r, m2) := hf
      unfold f11_leave_b17 at hf
      refine lv_iload hx hb dX11_leave_17 (lv_at hl 3 rfl) ?_
      refine lv_aload_n hx hb dX11_leave_19 rfl (lv_at hl 0 rfl) ?_
      refine x_get hx hb hts hown hK hW (hI.2 0 (by decide)) uI_o (hI.1 0 _) rfl inX11 15 (by decide) t_755 rfl dX11_leave_20 ?_
      refine lv_iload_n hx hb dX11_leave_23 rfl (lv_at hl 1 rfl) ?_
      obtain ⟨hi3, hf⟩ := rd_some hf
      refine x_iald hx hb hK hW (hI.2 11 (by decide)) uI_o (hI.1 11 _) hi3 dX11_leave_24 ?_
      generalize g 11 (w1).toNatClampNeg = v4 at hf ⊢
      refine lv_icmp_ge (tgt := 60) hx hb dX11_leave_25 (by decide) (fun c5 => ?_) (fun c5 => ?_)
      · replace hf := (if_pos c5).symm.trans hf
        exact J60 _ _ _ _ _ _ hf hW (lv_sub hl [0, 1, 2] rfl)
      · replace hf := (if_neg c5).symm.trans hf
        refine lv_aload_n hx hb dX11_leave_28 rfl (lv_at hl 0 rfl) ?_
        refine x_get hx hb hts hown hK hW (hI.2 0 (by decide)) uI_o (hI.1 0 _) rfl inX11 14 (by decide) t_754 rfl dX11_leave_29 ?_
        refine lv_bipush (v := 64) hx hb dX11_leave_32 (by decide) ?_
        refine lv_iload_n hx hb dX11_leave_34 rfl (lv_at hl 1 rfl) ?_
        refine lv_imul hx hb dX11_leave_35 ?_
        refine lv_iload hx hb dX11_leave_36 (lv_at hl 3 rfl) ?_
        refine lv_iadd hx hb dX11_leave_38 ?_
        refine lv_iconst (v := 1) hx hb dX11_leave_39 (by decide) ?_
        refine lv_isub hx hb dX11_leave_40 ?_
        refine lv_aload_n hx hb dX11_leave_41 rfl (lv_at hl 0 rfl) ?_
        refine x_get hx hb hts hown hK hW (hI.2 0 (by decide)) uI_o (hI.1 0 _) rfl inX11 14 (by decide) t_754 rfl dX11_leave_42 ?_
        refine lv_bipush (v := 64) hx hb dX11_leave_45 (by decide) ?_
        refine lv_iload_n hx hb dX11_leave_47 rfl (lv_at hl 1 rfl) ?_
        refine lv_imul hx hb dX11_leave_48 ?_
        refine lv_iload hx hb dX11_leave_49 (lv_at hl 3 rfl) ?_
        refine lv_iadd hx hb dX11_leave_51 ?_
        obtain ⟨hi6, hf⟩ := rd_some hf
        refine x_iald hx hb hK hW (hI.2 10 (by decide)) uI_o (hI.1 10 _) hi6 dX11_leave_52 ?_
        generalize g 10 ((((64 : Int32) * w1) + w4)).toNatClampNeg = v7 at hf ⊢
        obtain ⟨hi8, hf⟩ := wr_some hf
        refine x_iast hx hb hK hW (hI.2 10 (by decide)) uI_o (fun _ => (hI.1 10 _)) hi8 uC_leaf dX11_leave_53 (fun H locs hW => ?_)
        generalize (va_up g 10 (upd (g 10) (((((64 : Int32) * w1) + w4) - (1 : Int32))).toNatClampNeg v7)) = g9 at hf hW
        refine lv_iinc (v := (w4 + (1 : Int32))) (lv' := [(4, .int (w4 + (1 : Int32))), (0, .ref (ad t i 0)), (1, .int w1), (3, .int w3)]) hx hb dX11_leave_54 hl (k := 3) rfl (by first | rfl | decide) (by decide) rfl (fun ls hl => ?_)
        refine lv_goto (tgt := 17) hx hb dX11_leave_57 (by decide) ?_
        exact ih17 _ _ _ _ _ _ _ hf hW (lv_sub hl [1, 2, 3, 0] rfl)
  exact L17 NF _ _ _ _ _ _ _ hf hW (lv_sub hl [2, 3, 1, 0] rfl)
def f11_makeRoom_j81 (g : Sg) : Option Sg :=
  (rd 4 (g 11) (1 : Int32) (fun v18 => (if v18 ≤ 0 then (some g) else (b2 (f11_leave (1 : Int32) (0 : Int32) g) (fun r22 g21 => ((f11_join (3 : Int32) r22 g21).bind (fun g25 => (some g25))))))))
def f11_makeRoom_j67 (g : Sg) : Option Sg :=
  (b2 (f11_leave (0 : Int32) (0 : Int32) g) (fun r29 g28 => ((f11_join (2 : Int32) r29 g28).bind (fun g32 => (some g32)))))
def f11_makeRoom_j43 (g : Sg) : Option Sg :=
  (rd 4 (g 11) (1 : Int32) (fun v12 => (if v12 = 0 then (rd 4 (g 11) (0 : Int32) (fun v15 => (if v15 ≤ 0 then (f11_makeRoom_j81 g) else (f11_makeRoom_j67 g)))) else (f11_makeRoom_j81 g))))
def f11_makeRoom_j39 (g : Sg) : Option Sg :=
  (f11_makeRoom_j67 g)
def f11_makeRoom (a1 : Int32) (g : Sg) : Option Sg :=
  (rd 4 (g 11) (0 : Int32) (fun v2 => (if v2 ≤ 0 then (f11_makeRoom_j43 g) else (rd 4 (g 11) (0 : Int32) (fun v5 => (if (g 0 16) < v5 then (f11_makeRoom_j39 g) else (rd 4 (g 11) (0 : Int32) (fun v8 => (if v8 = (g 0 16) then (if a1 = 0 then (f11_makeRoom_j43 g) else (f11_makeRoom_j39 g)) else (f11_makeRoom_j43 g))))))))))
set_option maxHeartbeats 4000000 in
set_option maxRecDepth 100000 in
theorem f11_makeRoom_ok (l : Launch) (D : va_G) (cy : Nat → ClassId) (ad : Nat → Nat → Nat → Nat) (ns : List (Nat × Nat × Nat)) (M : Me) (t i : Nat) (hI : IsModel cy ad ns t i) (g : Sg) (a1 : Int32) (m2 : Sg)  (hf : f11_makeRoom a1 g = some m2) : Cv l yX11_makeRoom (.code yX11_makeRoom cX11_makeRoom 3 none :: tk_tb) { frames := 1, cells := 0, slots := 0, locals := 24 } D cy ad ns [.ref (ad t i 0), .int a1] (uI M t i g) (uI M t i m2) := by
  refine Cv.of (by decide) (Nat.le_of_ble_eq_true rfl) ?_
  intro p e s m below meth c ls hE hW hl
  obtain ⟨hx, hb, hr, hml, hown, hts, hlk, hK⟩ := hE
  have hA : ∀ q : Nat, s.heap.size ≤ q → Aw ad ns s.heap.size q := fun q h => Or.inr h
  have hl : lv_has ls 3 [(0, .ref (ad t i 0)), (1, .int a1)] := hl
  unfold f11_makeRoom at hf
  have J81 : ∀ (g : Sg) (H : Heap) (locs : List Loc) (ls : Array Slot), f11_makeRoom_j81 g = some m2 → Wl D cy ad ns (Aw ad ns s.heap.size) s.heap (uI M t i g) H locs → lv_has ls 3 [(0, .ref (ad t i 0))] → W p l e { frames := 1, cells := 0, slots := 0, locals := 24 } s m ([.ref (ad t i 0), .int a1] : List Value).toArray below meth c H locs 0 0 (QV below D cy ad ns [.ref (ad t i 0), .int a1] s (uI M t i m2)) (F0 m 81 ls []) := by
    intro g H locs ls hf hW hl
    unfold f11_makeRoom_j81 at hf
    refine lv_aload_n hx hb dX11_makeRoom_81 rfl (lv_at hl 0 rfl) ?_
    refine x_get hx hb hts hown hK hW (hI.2 0 (by decide)) uI_o (hI.1 0 _) rfl inX11 15 (by decide) t_755 rfl dX11_makeRoom_82 ?_
    refine lv_iconst (v := 1) hx hb dX11_makeRoom_85 (by decide) ?_
    obtain ⟨hi17, hf⟩ := rd_some hf
    refine x_iald hx hb hK hW (hI.2 11 (by decide)) uI_o (hI.1 11 _) hi17 dX11_makeRoom_86 ?_
    generalize g 11 ((1 : Int32)).toNatClampNeg = v18 at hf ⊢
    refine lv_if_le (tgt := 101) hx hb dX11_makeRoom_87 (by decide) (fun c19 => ?_) (fun c19 => ?_)
    · replace hf := (if_pos c19).symm.trans hf
      exact x_vret hx hb hr hlk hK hW (congrArg (fun q => (uI M t i q)) (Option.some.inj hf)) dX11_makeRoom_101
    · replace hf := (if_neg c19).symm.trans hf
      refine lv_aload_n hx hb dX11_makeRoom_90 rfl (lv_at hl 0 rfl) ?_
      refine lv_iconst (v := 3) hx hb dX11_makeRoom_91 (by decide) ?_
      refine lv_aload_n hx hb dX11_makeRoom_92 rfl (lv_at hl 0 rfl) ?_
      refine lv_iconst (v := 1) hx hb dX11_makeRoom_93 (by decide) ?_
      refine lv_iconst (v := 0) hx hb dX11_makeRoom_94 (by decide) ?_
      obtain ⟨r22, g21, hc20, hf⟩ := b2_some hf
      have hC23 := f11_leave_ok l D cy ad ns M t i hI g (1 : Int32) (0 : Int32) r22 g21 hc20
      refine x_vi (n := 2) (As := [.int (1 : Int32), .int (0 : Int32)]) (rest := [.int (3 : Int32), .ref (ad t i 0)]) hx hb hml hts hown hK hW hA hC23 (hI.2 0 (by decide)) uI_o (hI.1 0 _) rfl rfl t_951 t_953 p_47 t_14 t_954 rfl (by decide +kernel) rfl rfl ⟨Nat.le_of_ble_eq_true rfl, Nat.le_of_ble_eq_true rfl⟩ hl.1 rfl (lv_room (Nat.le_of_ble_eq_true rfl)) dX11_makeRoom_95 ⟨(Nat.le_of_ble_eq_true rfl), (Nat.le_of_ble_eq_true rfl)⟩ (fun H locs hW => ?_)
      obtain ⟨g25, hc24, hf⟩ := bd_some hf
      have hC26 := f11_join_ok l D cy ad ns M t i hI g21 (3 : Int32) r22 g25 hc24
      refine x_vv (n := 2) (As := [.int (3 : Int32), .int r22]) (rest := []) hx hb hml hts hown hK hW hA hC26 (hI.2 0 (by decide)) uI_o (hI.1 0 _) rfl rfl t_955 t_957 p_48 t_14 t_958 rfl (by decide +kernel) rfl rfl ⟨Nat.le_of_ble_eq_true rfl, Nat.le_of_ble_eq_true rfl⟩ hl.1 rfl (lv_room (Nat.le_of_ble_eq_true rfl)) dX11_makeRoom_98 ⟨(Nat.le_of_ble_eq_true rfl), (Nat.le_of_ble_eq_true rfl)⟩ (fun H locs hW => ?_)
      exact x_vret hx hb hr hlk hK hW (congrArg (fun q => (uI M t i q)) (Option.some.inj hf)) dX11_makeRoom_101
  have J67 : ∀ (g : Sg) (H : Heap) (locs : List Loc) (ls : Array Slot), f11_makeRoom_j67 g = some m2 → Wl D cy ad ns (Aw ad ns s.heap.size) s.heap (uI M t i g) H locs → lv_has ls 3 [(0, .ref (ad t i 0))] → W p l e { frames := 1, cells := 0, slots := 0, locals := 24 } s m ([.ref (ad t i 0), .int a1] : List Value).toArray below meth c H locs 0 0 (QV below D cy ad ns [.ref (ad t i 0), .int a1] s (uI M t i m2)) (F0 m 67 ls []) := by
    intro g H locs ls hf hW hl
    unfold f11_makeRoom_j67 at hf
    refine lv_aload_n hx hb dX11_makeRoom_67 rfl (lv_at hl 0 rfl) ?_
    refine lv_iconst (v := 2) hx hb dX11_makeRoom_68 (by decide) ?_
    refine lv_aload_n hx hb dX11_makeRoom_69 rfl (lv_at hl 0 rfl) ?_
    refine lv_iconst (v := 0) hx hb dX11_makeRoom_70 (by decide) ?_
    refine lv_iconst (v := 0) hx hb dX11_makeRoom_71 (by decide) ?_
    obtain ⟨r29, g28, hc27, hf⟩ := b2_some hf
    have hC30 := f11_leave_ok l D cy ad ns M t i hI g (0 : Int32) (0 : Int32) r29 g28 hc27
    refine x_vi (n := 2) (As := [.int (0 : Int32), .int (0 : Int32)]) (rest := [.int (2 : Int32), .ref (ad t i 0)]) hx hb hml hts hown hK hW hA hC30 (hI.2 0 (by decide)) uI_o (hI.1 0 _) rfl rfl t_951 t_953 p_47 t_14 t_954 rfl (by decide +kernel) rfl rfl ⟨Nat.le_of_ble_eq_true rfl, Nat.le_of_ble_eq_true rfl⟩ hl.1 rfl (lv_room (Nat.le_of_ble_eq_true rfl)) dX11_makeRoom_72 ⟨(Nat.le_of_ble_eq_true rfl), (Nat.le_of_ble_eq_true rfl)⟩ (fun H locs hW => ?_)
    obtain ⟨g32, hc31, hf⟩ := bd_some hf
    have hC33 := f11_join_ok l D cy ad ns M t i hI g28 (2 : Int32) r29 g32 hc31
    refine x_vv (n := 2) (As := [.int (2 : Int32), .int r29]) (rest := []) hx hb hml hts hown hK hW hA hC33 (hI.2 0 (by decide)) uI_o (hI.1 0 _) rfl rfl t_955 t_957 p_48 t_14 t_958 rfl (by decide +kernel) rfl rfl ⟨Nat.le_of_ble_eq_true rfl, Nat.le_of_ble_eq_true rfl⟩ hl.1 rfl (lv_room (Nat.le_of_ble_eq_true rfl)) dX11_makeRoom_75 ⟨(Nat.le_of_ble_eq_true rfl), (Nat.le_of_ble_eq_true rfl)⟩ (fun H locs hW => ?_)
    refine lv_goto (tgt := 101) hx hb dX11_makeRoom_78 (by decide) ?_
    exact x_vret hx hb hr hlk hK hW (congrArg (fun q => (uI M t i q)) (Option.some.inj hf)) dX11_makeRoom_101
  have J43 : ∀ (g : Sg) (H : Heap) (locs : List Loc) (ls : Array Slot), f11_makeRoom_j43 g = some m2 → Wl D cy ad ns (Aw ad ns s.heap.size) s.heap (uI M t i g) H locs → lv_has ls 3 [(0, .ref (ad t i 0))] → W p l e { frames := 1, cells := 0, slots := 0, locals := 24 } s m ([.ref (ad t i 0), .int a1] : List Value).toArray below meth c H locs 0 0 (QV below D cy ad ns [.ref (ad t i 0), .int a1] s (uI M t i m2)) (F0 m 43 ls []) := by
    intro g H locs ls hf hW hl
    unfold f11_makeRoom_j43 at hf
    refine lv_iconst (v := 0) hx hb dX11_makeRoom_43 (by decide) ?_
    refine lv_istore_n (lv' := [(2, .int (0 : Int32)), (0, .ref (ad t i 0))]) hx hb dX11_makeRoom_44 rfl hl (by decide) rfl (fun ls hl => ?_)
    refine lv_iload_n hx hb dX11_makeRoom_45 rfl (lv_at hl 0 rfl) ?_
    refine lv_if_ne (tgt := 67) hx hb dX11_makeRoom_46 (by decide) (fun c9 => absurd (by decide) c9) (fun _ => ?_)
    refine lv_aload_n hx hb dX11_makeRoom_49 rfl (lv_at hl 1 rfl) ?_
    refine x_get hx hb hts hown hK hW (hI.2 0 (by decide)) uI_o (hI.1 0 _) rfl inX11 15 (by decide) t_755 rfl dX11_makeRoom_50 ?_
    refine lv_iconst (v := 1) hx hb dX11_makeRoom_53 (by decide) ?_
    obtain ⟨hi11, hf⟩ := rd_some hf
    refine x_iald hx hb hK hW (hI.2 11 (by decide)) uI_o (hI.1 11 _) hi11 dX11_makeRoom_54 ?_
    generalize g 11 ((1 : Int32)).toNatClampNeg = v12 at hf ⊢
    refine lv_if_ne (tgt := 81) hx hb dX11_makeRoom_55 (by decide) (fun c13 => ?_) (fun c13 => ?_)
    · replace hf := (if_neg c13).symm.trans hf
      exact J81 _ _ _ _ hf hW (lv_sub hl [1] rfl)
    · replace hf := (if_pos c13).symm.trans hf
      refine lv_aload_n hx hb dX11_makeRoom_58 rfl (lv_at hl 1 rfl) ?_
      refine x_get hx hb hts hown hK hW (hI.2 0 (by decide)) uI_o (hI.1 0 _) rfl inX11 15 (by decide) t_755 rfl dX11_makeRoom_59 ?_
      refine lv_iconst (v := 0) hx hb dX11_makeRoom_62 (by decide) ?_
      obtain ⟨hi14, hf⟩ := rd_some hf
      refine x_iald hx hb hK hW (hI.2 11 (by decide)) uI_o (hI.1 11 _) hi14 dX11_makeRoom_63 ?_
      generalize g 11 ((0 : Int32)).toNatClampNeg = v15 at hf ⊢
      refine lv_if_le (tgt := 81) hx hb dX11_makeRoom_64 (by decide) (fun c16 => ?_) (fun c16 => ?_)
      · replace hf := (if_pos c16).symm.trans hf
        exact J81 _ _ _ _ hf hW (lv_sub hl [1] rfl)
      · replace hf := (if_neg c16).symm.trans hf
        exact J67 _ _ _ _ hf hW (lv_sub hl [1] rfl)
  have J39 : ∀ (g : Sg) (H : Heap) (locs : List Loc) (ls : Array Slot), f11_makeRoom_j39 g = some m2 → Wl D cy ad ns (Aw ad ns s.heap.size) s.heap (uI M t i g) H locs → lv_has ls 3 [(0, .ref (ad t i 0))] → W p l e { frames := 1, cells := 0, slots := 0, locals := 24 } s m ([.ref (ad t i 0), .int a1] : List Value).toArray below meth c H locs 0 0 (QV below D cy ad ns [.ref (ad t i 0), .int a1] s (uI M t i m2)) (F0 m 39 ls []) := by
    intro g H locs ls hf hW hl
    unfold f11_makeRoom_j39 at hf
    refine lv_iconst (v := 1) hx hb dX11_makeRoom_39 (by decide) ?_
    refine lv_goto (tgt := 44) hx hb dX11_makeRoom_40 (by decide) ?_
    refine lv_istore_n (lv' := [(2, .int (1 : Int32)), (0, .ref (ad t i 0))]) hx hb dX11_makeRoom_44 rfl hl (by decide) rfl (fun ls hl => ?_)
    refine lv_iload_n hx hb dX11_makeRoom_45 rfl (lv_at hl 0 rfl) ?_
    refine lv_if_ne (tgt := 67) hx hb dX11_makeRoom_46 (by decide) (fun _ => ?_) (fun c9 => absurd c9 (by decide))
    exact J67 _ _ _ _ hf hW (lv_sub hl [1] rfl)
  refine lv_aload_n hx hb dX11_makeRoom_0 rfl (lv_at hl 0 rfl) ?_
  refine x_get hx hb hts hown hK hW (hI.2 0 (by decide)) uI_o (hI.1 0 _) rfl inX11 15 (by decide) t_755 rfl dX11_makeRoom_1 ?_
  refine lv_iconst (v := 0) hx hb dX11_makeRoom_4 (by decide) ?_
  obtain ⟨hi1, hf⟩ := rd_some hf
  refine x_iald hx hb hK hW (hI.2 11 (by decide)) uI_o (hI.1 11 _) hi1 dX11_makeRoom_5 ?_
  generalize g 11 ((0 : Int32)).toNatClampNeg = v2 at hf ⊢
  refine lv_if_le (tgt := 43) hx hb dX11_makeRoom_6 (by decide) (fun c3 => ?_) (fun c3 => ?_)
  · replace hf := (if_pos c3).symm.trans hf
    exact J43 _ _ _ _ hf hW (lv_sub hl [0] rfl)
  · replace hf := (if_neg c3).symm.trans hf
    refine lv_aload_n hx hb dX11_makeRoom_9 rfl (lv_at hl 0 rfl) ?_
    refine x_get hx hb hts hown hK hW (hI.2 0 (by decide)) uI_o (hI.1 0 _) rfl inX11 15 (by decide) t_755 rfl dX11_makeRoom_10 ?_
    refine lv_iconst (v := 0) hx hb dX11_makeRoom_13 (by decide) ?_
    obtain ⟨hi4, hf⟩ := rd_some hf
    refine x_iald hx hb hK hW (hI.2 11 (by decide)) uI_o (hI.1 11 _) hi4 dX11_makeRoom_14 ?_
    generalize g 11 ((0 : Int32)).toNatClampNeg = v5 at hf ⊢
    refine lv_aload_n hx hb dX11_makeRoom_15 rfl (lv_at hl 0 rfl) ?_
    refine x_get hx hb hts hown hK hW (hI.2 0 (by decide)) uI_o (hI.1 0 _) rfl inX11 16 (by decide) t_756 rfl dX11_makeRoom_16 ?_
    refine lv_icmp_gt (tgt := 39) hx hb dX11_makeRoom_19 (by decide) (fun c6 => ?_) (fun c6 => ?_)
    · replace hf := (if_pos c6).symm.trans hf
      exact J39 _ _ _ _ hf hW (lv_sub hl [0] rfl)
    · replace hf := (if_neg c6).symm.trans hf
      refine lv_aload_n hx hb dX11_makeRoom_22 rfl (lv_at hl 0 rfl) ?_
      refine x_get hx hb hts hown hK hW (hI.2 0 (by decide)) uI_o (hI.1 0 _) rfl inX11 15 (by decide) t_755 rfl dX11_makeRoom_23 ?_
      refine lv_iconst (v := 0) hx hb dX11_makeRoom_26 (by decide) ?_
      obtain ⟨hi7, hf⟩ := rd_some hf
      refine x_iald hx hb hK hW (hI.2 11 (by decide)) uI_o (hI.1 11 _) hi7 dX11_makeRoom_27 ?_
      generalize g 11 ((0 : Int32)).toNatClampNeg = v8 at hf ⊢
      refine lv_aload_n hx hb dX11_makeRoom_28 rfl (lv_at hl 0 rfl) ?_
      refine x_get hx hb hts hown hK hW (hI.2 0 (by decide)) uI_o (hI.1 0 _) rfl inX11 16 (by decide) t_756 rfl dX11_makeRoom_29 ?_
      refine lv_icmp_ne (tgt := 43) hx hb dX11_makeRoom_32 (by decide) (fun c9 => ?_) (fun c9 => ?_)
      · replace hf := (if_neg c9).symm.trans hf
        exact J43 _ _ _ _ hf hW (lv_sub hl [0] rfl)
      · replace hf := (if_pos c9).symm.trans hf
        refine lv_iload_n hx hb dX11_makeRoom_35 rfl (lv_at hl 1 rfl) ?_
        refine lv_if_eq (tgt := 43) hx hb dX11_makeRoom_36 (by decide) (fun c10 => ?_) (fun c10 => ?_)
        · replace hf := (if_pos c10).symm.trans hf
          exact J43 _ _ _ _ hf hW (lv_sub hl [0] rfl)
        · replace hf := (if_neg c10).symm.trans hf
          exact J39 _ _ _ _ hf hW (lv_sub hl [0] rfl)
def f11_otherKey_j128 (w1 : Int32) (g : Sg) : Option Sg :=
  ((f11_join (0 : Int32) w1 g).bind (fun g43 => (some g43)))
def f11_otherKey_j123 (w1 : Int32) (g : Sg) : Option Sg :=
  ((f11_makeRoom (0 : Int32) g).bind (fun g46 => (f11_otherKey_j128 w1 g46)))
def f11_otherKey (a1 : Int32) (a2 : Int32) (g : Sg) : Option Sg :=
  (rd 4 (g 11) (0 : Int32) (fun v2 => (rd 4 (g 11) (2 : Int32) (fun v4 => (if (v2 + v4) = a2 then (rd 4 (g 11) (0 : Int32) (fun v29 => (if a2 ≤ v29 then (b2 (f11_leave (0 : Int32) (0 : Int32) g) (fun r33 g32 => (f11_otherKey_j128 a1 g32))) else (b2 (f11_leave (2 : Int32) (0 : Int32) g) (fun r37 g36 => ((f11_makeRoom (0 : Int32) g36).bind (fun g40 => (f11_otherKey_j128 a1 g40)))))))) else (rd 4 (g 11) (0 : Int32) (fun v7 => (rd 4 (g 11) (1 : Int32) (fun v9 => (rd 4 (g 11) (2 : Int32) (fun v11 => (rd 4 (g 11) (3 : Int32) (fun v13 => (if (((v7 + v9) + v11) + v13) < a2 then (f11_otherKey_j128 a1 g) else (rd 4 (g 11) (0 : Int32) (fun v16 => (rd 4 (g 11) (1 : Int32) (fun v18 => (rd 4 (g 11) (2 : Int32) (fun v20 => (rd 4 (g 11) (3 : Int32) (fun v22 => (if (((v16 + v18) + v20) + v22) = ((2 : Int32) * a2) then (b2 (f11_leave (3 : Int32) (0 : Int32) g) (fun r26 g25 => (f11_otherKey_j123 a1 g25))) else (f11_otherKey_j123 a1 g))))))))))))))))))))))))
set_option maxHeartbeats 4000000 in
set_option maxRecDepth 100000 in
theorem f11_otherKey_ok (l : Launch) (D : va_G) (cy : Nat → ClassId) (ad : Nat → Nat → Nat → Nat) (ns : List (Nat × Nat × Nat)) (M : Me) (t i : Nat) (hI : IsModel cy ad ns t i) (g : Sg) (a1 : Int32) (a2 : Int32) (m2 : Sg)  (hf : f11_otherKey a1 a2 g = some m2) : Cv l yX11_otherKey (.code yX11_otherKey cX11_otherKey 4 none :: tk_tb) { frames := 2, cells := 0, slots := 0, locals := 46 } D cy ad ns [.ref (ad t i 0), .int a1, .int a2] (uI M t i g) (uI M t i m2) := by
  refine Cv.of (by decide) (Nat.le_of_ble_eq_true rfl) ?_
  intro p e s m below meth c ls hE hW hl
  obtain ⟨hx, hb, hr, hml, hown, hts, hlk, hK⟩ := hE
  have hA : ∀ q : Nat, s.heap.size ≤ q → Aw ad ns s.heap.size q := fun q h => Or.inr h
  have hl : lv_has ls 4 [(0, .ref (ad t i 0)), (1, .int a1), (2, .int a2)] := hl
  unfold f11_otherKey at hf
  have J128 : ∀ (w1 : Int32) (g : Sg) (H : Heap) (locs : List Loc) (ls : Array Slot), f11_otherKey_j128 w1 g = some m2 → Wl D cy ad ns (Aw ad ns s.heap.size) s.heap (uI M t i g) H locs → lv_has ls 4 [(0, .ref (ad t i 0)), (1, .int w1)] → W p l e { frames := 2, cells := 0, slots := 0, locals := 46 } s m ([.ref (ad t i 0), .int a1, .int a2] : List Value).toArray below meth c H locs 0 0 (QV below D cy ad ns [.ref (ad t i 0), .int a1, .int a2] s (uI M t i m2)) (F0 m 128 ls []) := by
    intro w1 g H locs ls hf hW hl
    unfold f11_otherKey_j128 at hf
    refine lv_aload_n hx hb dX11_otherKey_128 rfl (lv_at hl 0 rfl) ?_
    refine lv_iconst (v := 0) hx hb dX11_otherKey_129 (by decide) ?_
    refine lv_iload_n hx hb dX11_otherKey_130 rfl (lv_at hl 1 rfl) ?_
    obtain ⟨g43, hc42, hf⟩ := bd_some hf
    have hC44 := f11_join_ok l D cy ad ns M t i hI g (0 : Int32) w1 g43 hc42
    refine x_vv (n := 2) (As := [.int (0 : Int32), .int w1]) (rest := []) hx hb hml hts hown hK hW hA hC44 (hI.2 0 (by decide)) uI_o (hI.1 0 _) rfl rfl t_955 t_957 p_48 t_14 t_958 rfl (by decide +kernel) rfl rfl ⟨Nat.le_of_ble_eq_true rfl, Nat.le_of_ble_eq_true rfl⟩ hl.1 rfl (lv_room (Nat.le_of_ble_eq_true rfl)) dX11_otherKey_131 ⟨(Nat.le_of_ble_eq_true rfl), (Nat.le_of_ble_eq_true rfl)⟩ (fun H locs hW => ?_)
    exact x_vret hx hb hr hlk hK hW (congrArg (fun q => (uI M t i q)) (Option.some.inj hf)) dX11_otherKey_134
  have J123 : ∀ (w1 : Int32) (g : Sg) (H : Heap) (locs : List Loc) (ls : Array Slot), f11_otherKey_j123 w1 g = some m2 → Wl D cy ad ns (Aw ad ns s.heap.size) s.heap (uI M t i g) H locs → lv_has ls 4 [(0, .ref (ad t i 0)), (1, .int w1)] → W p l e { frames := 2, cells := 0, slots := 0, locals := 46 } s m ([.ref (ad t i 0), .int a1, .int a2] : List Value).toArray below meth c H locs 0 0 (QV below D cy ad ns [.ref (ad t i 0), .int a1, .int a2] s (uI M t i m2)) (F0 m 123 ls []) := by
    intro w1 g H locs ls hf hW hl
    unfold f11_otherKey_j123 at hf
    refine lv_aload_n hx hb dX11_otherKey_123 rfl (lv_at hl 0 rfl) ?_
    refine lv_iconst (v := 0) hx hb dX11_otherKey_124 (by decide) ?_
    obtain ⟨g46, hc45, hf⟩ := bd_some hf
    have hC47 := f11_makeRoom_ok l D cy ad ns M t i hI g (0 : Int32) g46 hc45
    refine x_vv (n := 1) (As := [.int (0 : Int32)]) (rest := []) hx hb hml hts hown hK hW hA hC47 (hI.2 0 (by decide)) uI_o (hI.1 0 _) rfl rfl t_959 t_961 p_49 t_14 t_962 rfl (by decide +kernel) rfl rfl ⟨Nat.le_of_ble_eq_true rfl, Nat.le_of_ble_eq_true rfl⟩ hl.1 rfl (lv_room (Nat.le_of_ble_eq_true rfl)) dX11_otherKey_125 ⟨(Nat.le_of_ble_eq_true rfl), (Nat.le_of_ble_eq_true rfl)⟩ (fun H locs hW => ?_)
    exact J128 _ _ _ _ _ hf hW (lv_sub hl [0, 1] rfl)
  refine lv_aload_n hx hb dX11_otherKey_0 rfl (lv_at hl 0 rfl) ?_
  refine x_get hx hb hts hown hK hW (hI.2 0 (by decide)) uI_o (hI.1 0 _) rfl inX11 15 (by decide) t_755 rfl dX11_otherKey_1 ?_
  refine lv_iconst (v := 0) hx hb dX11_otherKey_4 (by decide) ?_
  obtain ⟨hi1, hf⟩ := rd_some hf
  refine x_iald hx hb hK hW (hI.2 11 (by decide)) uI_o (hI.1 11 _) hi1 dX11_otherKey_5 ?_
  generalize g 11 ((0 : Int32)).toNatClampNeg = v2 at hf ⊢
  refine lv_aload_n hx hb dX11_otherKey_6 rfl (lv_at hl 0 rfl) ?_
  refine x_get hx hb hts hown hK hW (hI.2 0 (by decide)) uI_o (hI.1 0 _) rfl inX11 15 (by decide) t_755 rfl dX11_otherKey_7 ?_
  refine lv_iconst (v := 2) hx hb dX11_otherKey_10 (by decide) ?_
  obtain ⟨hi3, hf⟩ := rd_some hf
  refine x_iald hx hb hK hW (hI.2 11 (by decide)) uI_o (hI.1 11 _) hi3 dX11_otherKey_11 ?_
  generalize g 11 ((2 : Int32)).toNatClampNeg = v4 at hf ⊢
  refine lv_iadd hx hb dX11_otherKey_12 ?_
  refine lv_iload_n hx hb dX11_otherKey_13 rfl (lv_at hl 2 rfl) ?_
  refine lv_icmp_ne (tgt := 52) hx hb dX11_otherKey_14 (by decide) (fun c5 => ?_) (fun c5 => ?_)
  · replace hf := (if_neg c5).symm.trans hf
    refine lv_aload_n hx hb dX11_otherKey_52 rfl (lv_at hl 0 rfl) ?_
    refine x_get hx hb hts hown hK hW (hI.2 0 (by decide)) uI_o (hI.1 0 _) rfl inX11 15 (by decide) t_755 rfl dX11_otherKey_53 ?_
    refine lv_iconst (v := 0) hx hb dX11_otherKey_56 (by decide) ?_
    obtain ⟨hi6, hf⟩ := rd_some hf
    refine x_iald hx hb hK hW (hI.2 11 (by decide)) uI_o (hI.1 11 _) hi6 dX11_otherKey_57 ?_
    generalize g 11 ((0 : Int32)).toNatClampNeg = v7 at hf ⊢
    refine lv_aload_n hx hb dX11_otherKey_58 rfl (lv_at hl 0 rfl) ?_
    refine x_get hx hb hts hown hK hW (hI.2 0 (by decide)) uI_o (hI.1 0 _) rfl inX11 15 (by decide) t_755 rfl dX11_otherKey_59 ?_
    refine lv_iconst (v := 1) hx hb dX11_otherKey_62 (by decide) ?_
    obtain ⟨hi8, hf⟩ := rd_some hf
    refine x_iald hx hb hK hW (hI.2 11 (by decide)) uI_o (hI.1 11 _) hi8 dX11_otherKey_63 ?_
    generalize g 11 ((1 : Int32)).toNatClampNeg = v9 at hf ⊢
    refine lv_iadd hx hb dX11_otherKey_64 ?_
    refine lv_aload_n hx hb dX11_otherKey_65 rfl (lv_at hl 0 rfl) ?_
    refine x_get hx hb hts hown hK hW (hI.2 0 (by decide)) uI_o (hI.1 0 _) rfl inX11 15 (by decide) t_755 rfl dX11_otherKey_66 ?_
    refine lv_iconst (v := 2) hx hb dX11_otherKey_69 (by decide) ?_
    obtain ⟨hi10, hf⟩ := rd_some hf
    refine x_iald hx hb hK hW (hI.2 11 (by decide)) uI_o (hI.1 11 _) hi10 dX11_otherKey_70 ?_
    generalize g 11 ((2 : Int32)).toNatClampNeg = v11 at hf ⊢
    refine lv_iadd hx hb dX11_otherKey_71 ?_
    refine lv_aload_n hx hb dX11_otherKey_72 rfl (lv_at hl 0 rfl) ?_
    refine x_get hx hb hts hown hK hW (hI.2 0 (by decide)) uI_o (hI.1 0 _) rfl inX11 15 (by decide) t_755 rfl dX11_otherKey_73 ?_
    refine lv_iconst (v := 3) hx hb dX11_otherKey_76 (by decide) ?_
    obtain ⟨hi12, hf⟩ := rd_some hf
    refine x_iald hx hb hK hW (hI.2 11 (by decide)) uI_o (hI.1 11 _) hi12 dX11_otherKey_77 ?_
    generalize g 11 ((3 : Int32)).toNatClampNeg = v13 at hf ⊢
    refine lv_iadd hx hb dX11_otherKey_78 ?_
    refine lv_iload_n hx hb dX11_otherKey_79 rfl (lv_at hl 2 rfl) ?_
    refine lv_icmp_lt (tgt := 128) hx hb dX11_otherKey_80 (by decide) (fun c14 => ?_) (fun c14 => ?_)
    · replace hf := (if_pos c14).symm.trans hf
      exact J128 _ _ _ _ _ hf hW (lv_sub hl [0, 1] rfl)
    · replace hf := (if_neg c14).symm.trans hf
      refine lv_aload_n hx hb dX11_otherKey_83 rfl (lv_at hl 0 rfl) ?_
      refine x_get hx hb hts hown hK hW (hI.2 0 (by decide)) uI_o (hI.1 0 _) rfl inX11 15 (by decide) t_755 rfl dX11_otherKey_84 ?_
      refine lv_iconst (v := 0) hx hb dX11_otherKey_87 (by decide) ?_
      obtain ⟨hi15, hf⟩ := rd_some hf
      refine x_iald hx hb hK hW (hI.2 11 (by decide)) uI_o (hI.1 11 _) hi15 dX11_otherKey_88 ?_
      generalize g 11 ((0 : Int32)).toNatClampNeg = v16 at hf ⊢
      refine lv_aload_n hx hb dX11_otherKey_89 rfl (lv_at hl 0 rfl) ?_
      refine x_get hx hb hts hown hK hW (hI.2 0 (by decide)) uI_o (hI.1 0 _) rfl inX11 15 (by decide) t_755 rfl dX11_otherKey_90 ?_
      refine lv_iconst (v := 1) hx hb dX11_otherKey_93 (by decide) ?_
      obtain ⟨hi17, hf⟩ := rd_some hf
      refine x_iald hx hb hK hW (hI.2 11 (by decide)) uI_o (hI.1 11 _) hi17 dX11_otherKey_94 ?_
      generalize g 11 ((1 : Int32)).toNatClampNeg = v18 at hf ⊢
      refine lv_iadd hx hb dX11_otherKey_95 ?_
      refine lv_aload_n hx hb dX11_otherKey_96 rfl (lv_at hl 0 rfl) ?_
      refine x_get hx hb hts hown hK hW (hI.2 0 (by decide)) uI_o (hI.1 0 _) rfl inX11 15 (by decide) t_755 rfl dX11_otherKey_97 ?_
      refine lv_iconst (v := 2) hx hb dX11_otherKey_100 (by decide) ?_
      obtain ⟨hi19, hf⟩ := rd_some hf
      refine x_iald hx hb hK hW (hI.2 11 (by decide)) uI_o (hI.1 11 _) hi19 dX11_otherKey_101 ?_
      generalize g 11 ((2 : Int32)).toNatClampNeg = v20 at hf ⊢
      refine lv_iadd hx hb dX11_otherKey_102 ?_
      refine lv_aload_n hx hb dX11_otherKey_103 rfl (lv_at hl 0 rfl) ?_
      refine x_get hx hb hts hown hK hW (hI.2 0 (by decide)) uI_o (hI.1 0 _) rfl inX11 15 (by decide) t_755 rfl dX11_otherKey_104 ?_
      refine lv_iconst (v := 3) hx hb dX11_otherKey_107 (by decide) ?_
      obtain ⟨hi21, hf⟩ := rd_some hf
      refine x_iald hx hb hK hW (hI.2 11 (by decide)) uI_o (hI.1 11 _) hi21 dX11_otherKey_108 ?_
      generalize g 11 ((3 : Int32)).toNatClampNeg = v22 at hf ⊢
      refine lv_iadd hx hb dX11_otherKey_109 ?_
      refine lv_iconst (v := 2) hx hb dX11_otherKey_110 (by decide) ?_
      refine lv_iload_n hx hb dX11_otherKey_111 rfl (lv_at hl 2 rfl) ?_
      refine lv_imul hx hb dX11_otherKey_112 ?_
      refine lv_icmp_ne (tgt := 123) hx hb dX11_otherKey_113 (by decide) (fun c23 => ?_) (fun c23 => ?_)
      · replace hf := (if_neg c23).symm.trans hf
        exact J123 _ _ _ _ _ hf hW (lv_sub hl [0, 1] rfl)
      · replace hf := (if_pos c23).symm.trans hf
        refine lv_aload_n hx hb dX11_otherKey_116 rfl (lv_at hl 0 rfl) ?_
        refine lv_iconst (v := 3) hx hb dX11_otherKey_117 (by decide) ?_
        refine lv_iconst (v := 0) hx hb dX11_otherKey_118 (by decide) ?_
        obtain ⟨r26, g25, hc24, hf⟩ := b2_some hf
        have hC27 := f11_leave_ok l D cy ad ns M t i hI g (3 : Int32) (0 : Int32) r26 g25 hc24
        refine x_vi (n := 2) (As := [.int (3 : Int32), .int (0 : Int32)]) (rest := []) hx hb hml hts hown hK hW hA hC27 (hI.2 0 (by decide)) uI_o (hI.1 0 _) rfl rfl t_951 t_953 p_47 t_14 t_954 rfl (by decide +kernel) rfl rfl ⟨Nat.le_of_ble_eq_true rfl, Nat.le_of_ble_eq_true rfl⟩ hl.1 rfl (lv_room (Nat.le_of_ble_eq_true rfl)) dX11_otherKey_119 ⟨(Nat.le_of_ble_eq_true rfl), (Nat.le_of_ble_eq_true rfl)⟩ (fun H locs hW => ?_)
        refine lv_istore_n (lv' := [(3, .int r26), (0, .ref (ad t i 0)), (1, .int a1), (2, .int a2)]) hx hb dX11_otherKey_122 rfl hl (by decide) rfl (fun ls hl => ?_)
        exact J123 _ _ _ _ _ hf hW (lv_sub hl [1, 2] rfl)
  · replace hf := (if_pos c5).symm.trans hf
    refine lv_aload_n hx hb dX11_otherKey_17 rfl (lv_at hl 0 rfl) ?_
    refine x_get hx hb hts hown hK hW (hI.2 0 (by decide)) uI_o (hI.1 0 _) rfl inX11 15 (by decide) t_755 rfl dX11_otherKey_18 ?_
    refine lv_iconst (v := 0) hx hb dX11_otherKey_21 (by decide) ?_
    obtain ⟨hi28, hf⟩ := rd_some hf
    refine x_iald hx hb hK hW (hI.2 11 (by decide)) uI_o (hI.1 11 _) hi28 dX11_otherKey_22 ?_
    generalize g 11 ((0 : Int32)).toNatClampNeg = v29 at hf ⊢
    refine lv_iload_n hx hb dX11_otherKey_23 rfl (lv_at hl 2 rfl) ?_
    refine lv_icmp_ge (tgt := 42) hx hb dX11_otherKey_24 (by decide) (fun c30 => ?_) (fun c30 => ?_)
    · replace hf := (if_pos c30).symm.trans hf
      refine lv_aload_n hx hb dX11_otherKey_42 rfl (lv_at hl 0 rfl) ?_
      refine lv_iconst (v := 0) hx hb dX11_otherKey_43 (by decide) ?_
      refine lv_iconst (v := 0) hx hb dX11_otherKey_44 (by decide) ?_
      obtain ⟨r33, g32, hc31, hf⟩ := b2_some hf
      have hC34 := f11_leave_ok l D cy ad ns M t i hI g (0 : Int32) (0 : Int32) r33 g32 hc31
      refine x_vi (n := 2) (As := [.int (0 : Int32), .int (0 : Int32)]) (rest := []) hx hb hml hts hown hK hW hA hC34 (hI.2 0 (by decide)) uI_o (hI.1 0 _) rfl rfl t_951 t_953 p_47 t_14 t_954 rfl (by decide +kernel) rfl rfl ⟨Nat.le_of_ble_eq_true rfl, Nat.le_of_ble_eq_true rfl⟩ hl.1 rfl (lv_room (Nat.le_of_ble_eq_true rfl)) dX11_otherKey_45 ⟨(Nat.le_of_ble_eq_true rfl), (Nat.le_of_ble_eq_true rfl)⟩ (fun H locs hW => ?_)
      refine lv_istore_n (lv' := [(3, .int r33), (0, .ref (ad t i 0)), (1, .int a1), (2, .int a2)]) hx hb dX11_otherKey_48 rfl hl (by decide) rfl (fun ls hl => ?_)
      refine lv_goto (tgt := 128) hx hb dX11_otherKey_49 (by decide) ?_
      exact J128 _ _ _ _ _ hf hW (lv_sub hl [1, 2] rfl)
    · replace hf := (if_neg c30).symm.trans hf
      refine lv_aload_n hx hb dX11_otherKey_27 rfl (lv_at hl 0 rfl) ?_
      refine lv_iconst (v := 2) hx hb dX11_otherKey_28 (by decide) ?_
      refine lv_iconst (v := 0) hx hb dX11_otherKey_29 (by decide) ?_
      obtain ⟨r37, g36, hc35, hf⟩ := b2_some hf
      have hC38 := f11_leave_ok l D cy ad ns M t i hI g (2 : Int32) (0 : Int32) r37 g36 hc35
      refine x_vi (n := 2) (As := [.int (2 : Int32), .int (0 : Int32)]) (rest := []) hx hb hml hts hown hK hW hA hC38 (hI.2 0 (by decide)) uI_o (hI.1 0 _) rfl rfl t_951 t_953 p_47 t_14 t_954 rfl (by decide +kernel) rfl rfl ⟨Nat.le_of_ble_eq_true rfl, Nat.le_of_ble_eq_true rfl⟩ hl.1 rfl (lv_room (Nat.le_of_ble_eq_true rfl)) dX11_otherKey_30 ⟨(Nat.le_of_ble_eq_true rfl), (Nat.le_of_ble_eq_true rfl)⟩ (fun H locs hW => ?_)
      refine lv_istore_n (lv' := [(3, .int r37), (0, .ref (ad t i 0)), (1, .int a1), (2, .int a2)]) hx hb dX11_otherKey_33 rfl hl (by decide) rfl (fun ls hl => ?_)
      refine lv_aload_n hx hb dX11_otherKey_34 rfl (lv_at hl 1 rfl) ?_
      refine lv_iconst (v := 0) hx hb dX11_otherKey_35 (by decide) ?_
      obtain ⟨g40, hc39, hf⟩ := bd_some hf
      have hC41 := f11_makeRoom_ok l D cy ad ns M t i hI g36 (0 : Int32) g40 hc39
      refine x_vv (n := 1) (As := [.int (0 : Int32)]) (rest := []) hx hb hml hts hown hK hW hA hC41 (hI.2 0 (by decide)) uI_o (hI.1 0 _) rfl rfl t_959 t_961 p_49 t_14 t_962 rfl (by decide +kernel) rfl rfl ⟨Nat.le_of_ble_eq_true rfl, Nat.le_of_ble_eq_true rfl⟩ hl.1 rfl (lv_room (Nat.le_of_ble_eq_true rfl)) dX11_otherKey_36 ⟨(Nat.le_of_ble_eq_true rfl), (Nat.le_of_ble_eq_true rfl)⟩ (fun H locs hW => ?_)
      refine lv_goto (tgt := 128) hx hb dX11_otherKey_39 (by decide) ?_
      exact J128 _ _ _ _ _ hf hW (lv_sub hl [1, 2] rfl)
def f11_balanced_j99 (rec34 : Int32 → Int32 → Int32 → Int32 → Sg → Option (Int32 × Sg)) (w1 : Int32) (w3 : Int32) (w4 : Int32) (w5 : Int32) (w6 : Int32) (w7 : Int32) (w8 : Int32) (g : Sg) : Option (Int32 × Sg) :=
  (if w7 < 0 then (b2 (f11_leave (1 : Int32) w8 g) (fun r110 g109 => ((f11_join (1 : Int32) w6 g109).bind (fun g113 => (rec34 w1 w3 (w4 + (1 : Int32)) (w5 + (1 : Int32)) g113))))) else (b2 (f11_leave (0 : Int32) w7 g) (fun r117 g116 => ((f11_join (1 : Int32) w6 g116).bind (fun g120 => (rec34 w1 w3 (w4 + (1 : Int32)) (w5 + (1 : Int32)) g120))))))
def f11_balanced_b34 (rec34 : Int32 → Int32 → Int32 → Int32 → Sg → Option (Int32 × Sg)) (w1 : Int32) (w3 : Int32) (w4 : Int32) (w5 : Int32) (g : Sg) : Option (Int32 × Sg) :=
  (if w3 ≤ w5 then (some (w4, g)) else (rd 1805 (g 1) ((1405 : Int32) + w5) (fun v7 => ((f11_indexIn g (0 : Int32) v7).bind (fun r9 => ((f11_indexIn g (1 : Int32) v7).bind (fun r12 => ((f11_indexIn g (2 : Int32) v7).bind (fun r15 => ((f11_indexIn g (3 : Int32) v7).bind (fun r18 => (if 0 ≤ r9 then (f11_balanced_j99 rec34 w1 w3 w4 w5 v7 r9 r12 g) else (if r12 < 0 then (if r15 < 0 then (if r18 < 0 then ((f11_otherKey v7 w1 g).bind (fun g25 => (rec34 w1 w3 w4 (w5 + (1 : Int32)) g25))) else (rd 4 (g 11) (2 : Int32) (fun v28 => (rd 4 (g 11) (3 : Int32) (fun v30 => (nz v30 (if (1 : Int32) ≤ (v28 / v30) then ((f11_within ((g 0 16) - (v28 / v30)) (0 : Int32) w1).bind (fun r34 => (st (va_up g 0 (upd (g 0) 16 r34)) (fun g36 => ((f11_makeRoom (1 : Int32) g36).bind (fun g38 => ((f11_indexIn g38 (3 : Int32) v7).bind (fun r41 => (b2 (f11_leave (3 : Int32) r41 g38) (fun r45 g44 => ((f11_join (1 : Int32) v7 g44).bind (fun g48 => (rec34 w1 w3 w4 (w5 + (1 : Int32)) g48))))))))))))) else ((f11_within ((g 0 16) - (1 : Int32)) (0 : Int32) w1).bind (fun r51 => (st (va_up g 0 (upd (g 0) 16 r51)) (fun g53 => ((f11_makeRoom (1 : Int32) g53).bind (fun g55 => ((f11_indexIn g55 (3 : Int32) v7).bind (fun r58 => (b2 (f11_leave (3 : Int32) r58 g55) (fun r62 g61 => ((f11_join (1 : Int32) v7 g61).bind (fun g65 => (rec34 w1 w3 w4 (w5 + (1 : Int32)) g65)))))))))))))))))))) else (rd 4 (g 11) (3 : Int32) (fun v68 => (rd 4 (g 11) (2 : Int32) (fun v70 => (nz v70 (if (1 : Int32) ≤ (v68 / v70) then ((f11_within ((g 0 16) + (v68 / v70)) (0 : Int32) w1).bind (fun r74 => (st (va_up g 0 (upd (g 0) 16 r74)) (fun g76 => ((f11_makeRoom (0 : Int32) g76).bind (fun g78 => ((f11_indexIn g78 (2 : Int32) v7).bind (fun r81 => (b2 (f11_leave (2 : Int32) r81 g78) (fun r85 g84 => ((f11_join (1 : Int32) v7 g84).bind (fun g88 => (rec34 w1 w3 w4 (w5 + (1 : Int32)) g88))))))))))))) else ((f11_within ((g 0 16) + (1 : Int32)) (0 : Int32) w1).bind (fun r91 => (st (va_up g 0 (upd (g 0) 16 r91)) (fun g93 => ((f11_makeRoom (0 : Int32) g93).bind (fun g95 => ((f11_indexIn g95 (2 : Int32) v7).bind (fun r98 => (b2 (f11_leave (2 : Int32) r98 g95) (fun r102 g101 => ((f11_join (1 : Int32) v7 g101).bind (fun g105 => (rec34 w1 w3 w4 (w5 + (1 : Int32)) g105)))))))))))))))))))) else (f11_balanced_j99 rec34 w1 w3 w4 w5 v7 r9 r12 g))))))))))))))
def f11_balanced_l34 : Nat → Int32 → Int32 → Int32 → Int32 → Sg → Option (Int32 × Sg)
  | 0 => fun _ _ _ _ _ => none
  | k + 1 => f11_balanced_b34 (f11_balanced_l34 k)
def f11_balanced_j23 (w1 : Int32) (w2 : Int32) (w3 : Int32) (g : Sg) : Option (Int32 × Sg) :=
  (st (va_up g 0 (upd (g 0) 16 (0 : Int32))) (fun g4 => (f11_balanced_l34 NF w1 w3 (0 : Int32) w2 g4)))
def f11_balanced_b3 (rec3 : Int32 → Int32 → Int32 → Int32 → Sg → Option (Int32 × Sg)) (w1 : Int32) (w2 : Int32) (w3 : Int32) (w4 : Int32) (g : Sg) : Option (Int32 × Sg) :=
  (if (4 : Int32) ≤ w4 then (f11_balanced_j23 w1 w2 w3 g) else (wr 4 w4 (va_up g 11 (upd (g 11) (w4).toNatClampNeg (0 : Int32))) (fun g3 => (rec3 w1 w2 w3 (w4 + (1 : Int32)) g3))))
def f11_balanced_l3 : Nat → Int32 → Int32 → Int32 → Int32 → Sg → Option (Int32 × Sg)
  | 0 => fun _ _ _ _ _ => none
  | k + 1 => f11_balanced_b3 (f11_balanced_l3 k)
def f11_balanced (a1 : Int32) (a2 : Int32) (a3 : Int32) (g : Sg) : Option (Int32 × Sg) :=
  (f11_balanced_l3 NF a1 a2 a3 (0 : Int32) g)
set_option maxHeartbeats 4000000 in
set_option maxRecDepth 100000 in
theorem f11_balanced_ok (l : Launch) (D : va_G) (cy : Nat → ClassId) (ad : Nat → Nat → Nat → Nat) (ns : List (Nat × Nat × Nat)) (M : Me) (t i : Nat) (hI : IsModel cy ad ns t i) (g : Sg) (a1 : Int32) (a2 : Int32) (a3 : Int32) (r : Int32) (m2 : Sg)  (hf : f11_balanced a1 a2 a3 g = some (r, m2)) : Ci l yX11_balanced (.code yX11_balanced cX11_balanced 13 (some .int) :: tk_tb) { frames := 3, cells := 0, slots := 0, locals := 69 } D cy ad ns [.ref (ad t i 0), .int a1, .int a2, .int a3] (uI M t i g) r (uI M t i m2) := by
  refine Ci.of (by decide) (Nat.le_of_ble_eq_true rfl) ?_
  intro p e s m below meth c ls hE hW hl
  obtain ⟨hx, hb, hr, hml, hown, hts, hlk, hK⟩ := hE
  have hA : ∀ q : Nat, s.heap.size ≤ q → Aw ad ns s.heap.size q := fun q h => Or.inr h
  have hl : lv_has ls 13 [(0, .ref (ad t i 0)), (1, .int a1), (2, .int a2), (3, .int a3)] := hl
  unfold f11_balanced at hf
  have J23 : ∀ (w1 : Int32) (w2 : Int32) (w3 : Int32) (g : Sg) (H : Heap) (locs : List Loc) (ls : Array Slot), f11_balanced_j23 w1 w2 w3 g = some (r, m2) → Wl D cy ad ns (Aw ad ns s.heap.size) s.heap (uI M t i g) H locs → lv_has ls 13 [(0, .ref (ad t i 0)), (1, .int w1), (2, .int w2), (3, .int w3)] → W p l e { frames := 3, cells := 0, slots := 0, locals := 69 } s m ([.ref (ad t i 0), .int a1, .int a2, .int a3] : List Value).toArray below meth c H locs 0 0 (QI below D cy ad ns [.ref (ad t i 0), .int a1, .int a2, .int a3] s r (uI M t i m2)) (F0 m 23 ls []) := by
    intro w1 w2 w3 g H locs ls hf hW hl
    unfold f11_balanced_j23 at hf
    refine lv_aload_n hx hb dX11_balanced_23 rfl (lv_at hl 0 rfl) ?_
    refine lv_iconst (v := 0) hx hb dX11_balanced_24 (by decide) ?_
    replace hf := st_some hf
    refine x_put hx hb hts hown hK hW (hI.2 0 (by decide)) uI_o (hI.1 0 _) rfl inX11 tyX11 tyX11_ok nmX11 16 (by decide) t_756 rfl rfl (Nat.le_of_ble_eq_true rfl) (hI.1 0 _) uC_leaf dX11_balanced_25 (fun H locs hW => ?_)
    generalize (va_up g 0 (upd (g 0) 16 (0 : Int32))) = g4 at hf hW
    refine lv_iconst (v := 0) hx hb dX11_balanced_28 (by decide) ?_
    refine lv_istore (lv' := [(4, .int (0 : Int32)), (0, .ref (ad t i 0)), (1, .int w1), (2, .int w2), (3, .int w3)]) hx hb dX11_balanced_29 hl (by decide) rfl (fun ls hl => ?_)
    refine lv_iload_n hx hb dX11_balanced_31 rfl (lv_at hl 3 rfl) ?_
    refine lv_istore (lv' := [(5, .int w2), (4, .int (0 : Int32)), (0, .ref (ad t i 0)), (1, .int w1), (2, .int w2), (3, .int w3)]) hx hb dX11_balanced_32 hl (by decide) rfl (fun ls hl => ?_)
    have L34 : ∀ (k : Nat) (w1 : Int32) (w3 : Int32) (w4 : Int32) (w5 : Int32) (g : Sg) (H : Heap) (locs : List Loc) (ls : Array Slot), f11_balanced_l34 k w1 w3 w4 w5 g = some (r, m2) → Wl D cy ad ns (Aw ad ns s.heap.size) s.heap (uI M t i g) H locs → lv_has ls 13 [(0, .ref (ad t i 0)), (1, .int w1), (3, .int w3), (4, .int w4), (5, .int w5)] → W p l e { frames := 3, cells := 0, slots := 0, locals := 69 } s m ([.ref (ad t i 0), .int a1, .int a2, .int a3] : List Value).toArray below meth c H locs 0 0 (QI below D cy ad ns [.ref (ad t i 0), .int a1, .int a2, .int a3] s r (uI M t i m2)) (F0 m 34 ls []) := by
      intro k
      induction k with
      | zero => intro w1 w3 w4 w5 g H locs ls hf; exact absurd hf (by simp [f11_balanced_l34])
      | succ k34 ih34 =>
        intro w1 w3 w4 w5 g H locs ls hf hW hl
        have hf : f11_balanced_b34 (f11_balanced_l34 k34) w1 w3 w4 w5 g = some (r, m2) := hf
        unfold f11_balanced_b34 at hf
        have J99 : ∀ (w1 : Int32) (w3 : Int32) (w4 : Int32) (w5 : Int32) (w6 : Int32) (w7 : Int32) (w8 : Int32) (g : Sg) (H : Heap) (locs : List Loc) (ls : Array Slot), f11_balanced_j99 (f11_balanced_l34 k34) w1 w3 w4 w5 w6 w7 w8 g = some (r, m2) → Wl D cy ad ns (Aw ad ns s.heap.size) s.heap (uI M t i g) H locs → lv_has ls 13 [(0, .ref (ad t i 0)), (1, .int w1), (3, .int w3), (4, .int w4), (5, .int w5), (6, .int w6), (7, .int w7), (8, .int w8)] → W p l e { frames := 3, cells := 0, slots := 0, locals := 69 } s m ([.ref (ad t i 0), .int a1, .int a2, .int a3] : List Value).toArray below meth c H locs 0 0 (QI below D cy ad ns [.ref (ad t i 0), .int a1, .int a2, .int a3] s r (uI M t i m2)) (F0 m 99 ls []) := by
          intro w1 w3 w4 w5 w6 w7 w8 g H locs ls hf hW hl
          unfold f11_balanced_j99 at hf
          refine lv_iinc (v := (w4 + (1 : Int32))) (lv' := [(4, .int (w4 + (1 : Int32))), (0, .ref (ad t i 0)), (1, .int w1), (3, .int w3), (5, .int w5), (6, .int w6), (7, .int w7), (8, .int w8)]) hx hb dX11_balanced_99 hl (k := 3) rfl (by first | rfl | decide) (by decide) rfl (fun ls hl => ?_)
          refine lv_iload hx hb dX11_balanced_102 (lv_at hl 6 rfl) ?_
          refine lv_if_lt (tgt := 117) hx hb dX11_balanced_104 (by decide) (fun c107 => ?_) (fun c107 => ?_)
          · replace hf := (if_pos c107).symm.trans hf
            refine lv_aload_n hx hb dX11_balanced_117 rfl (lv_at hl 1 rfl) ?_
            refine lv_iconst (v := 1) hx hb dX11_balanced_118 (by decide) ?_
            refine lv_iload hx hb dX11_balanced_119 (lv_at hl 7 rfl) ?_
            obtain ⟨r110, g109, hc108, hf⟩ := b2_some hf
            have hC111 := f11_leave_ok l D cy ad ns M t i hI g (1 : Int32) w8 r110 g109 hc108
            refine x_vi (n := 2) (As := [.int (1 : Int32), .int w8]) (rest := []) hx hb hml hts hown hK hW hA hC111 (hI.2 0 (by decide)) uI_o (hI.1 0 _) rfl rfl t_951 t_953 p_47 t_14 t_954 rfl (by decide +kernel) rfl rfl ⟨Nat.le_of_ble_eq_true rfl, Nat.le_of_ble_eq_true rfl⟩ hl.1 rfl (lv_room (Nat.le_of_ble_eq_true rfl)) dX11_balanced_121 ⟨(Nat.le_of_ble_eq_true rfl), (Nat.le_of_ble_eq_true rfl)⟩ (fun H locs hW => ?_)
            refine lv_istore (lv' := [(11, .int r110), (4, .int (w4 + (1 : Int32))), (0, .ref (ad t i 0)), (1, .int w1), (3, .int w3), (5, .int w5), (6, .int w6), (7, .int w7), (8, .int w8)]) hx hb dX11_balanced_124 hl (by decide) rfl (fun ls hl => ?_)
            refine lv_aload_n hx hb dX11_balanced_126 rfl (lv_at hl 2 rfl) ?_
            refine lv_iconst (v := 1) hx hb dX11_balanced_127 (by decide) ?_
            refine lv_iload hx hb dX11_balanced_128 (lv_at hl 6 rfl) ?_
            obtain ⟨g113, hc112, hf⟩ := bd_some hf
            have hC114 := f11_join_ok l D cy ad ns M t i hI g109 (1 : Int32) w6 g113 hc112
            refine x_vv (n := 2) (As := [.int (1 : Int32), .int w6]) (rest := []) hx hb hml hts hown hK hW hA hC114 (hI.2 0 (by decide)) uI_o (hI.1 0 _) rfl rfl t_955 t_957 p_48 t_14 t_958 rfl (by decide +kernel) rfl rfl ⟨Nat.le_of_ble_eq_true rfl, Nat.le_of_ble_eq_true rfl⟩ hl.1 rfl (lv_room (Nat.le_of_ble_eq_true rfl)) dX11_balanced_130 ⟨(Nat.le_of_ble_eq_true rfl), (Nat.le_of_ble_eq_true rfl)⟩ (fun H locs hW => ?_)
            refine lv_goto (tgt := 293) hx hb dX11_balanced_133 (by decide) ?_
            refine lv_iinc (v := (w5 + (1 : Int32))) (lv' := [(5, .int (w5 + (1 : Int32))), (11, .int r110), (4, .int (w4 + (1 : Int32))), (0, .ref (ad t i 0)), (1, .int w1), (3, .int w3), (6, .int w6), (7, .int w7), (8, .int w8)]) hx hb dX11_balanced_293 hl (k := 5) rfl (by first | rfl | decide) (by decide) rfl (fun ls hl => ?_)
            refine lv_goto (tgt := 34) hx hb dX11_balanced_296 (by decide) ?_
            exact ih34 _ _ _ _ _ _ _ _ hf hW (lv_sub hl [3, 4, 5, 2, 0] rfl)
          · replace hf := (if_neg c107).symm.trans hf
            refine lv_aload_n hx hb dX11_balanced_107 rfl (lv_at hl 1 rfl) ?_
            refine lv_iconst (v := 0) hx hb dX11_balanced_108 (by decide) ?_
            refine lv_iload hx hb dX11_balanced_109 (lv_at hl 6 rfl) ?_
            obtain ⟨r117, g116, hc115, hf⟩ := b2_some hf
            have hC118 := f11_leave_ok l D cy ad ns M t i hI g (0 : Int32) w7 r117 g116 hc115
            refine x_vi (n := 2) (As := [.int (0 : Int32), .int w7]) (rest := []) hx hb hml hts hown hK hW hA hC118 (hI.2 0 (by decide)) uI_o (hI.1 0 _) rfl rfl t_951 t_953 p_47 t_14 t_954 rfl (by decide +kernel) rfl rfl ⟨Nat.le_of_ble_eq_true rfl, Nat.le_of_ble_eq_true rfl⟩ hl.1 rfl (lv_room (Nat.le_of_ble_eq_true rfl)) dX11_balanced_111 ⟨(Nat.le_of_ble_eq_true rfl), (Nat.le_of_ble_eq_true rfl)⟩ (fun H locs hW => ?_)
            refine lv_goto (tgt := 124) hx hb dX11_balanced_114 (by decide) ?_
            refine lv_istore (lv' := [(11, .int r117), (4, .int (w4 + (1 : Int32))), (0, .ref (ad t i 0)), (1, .int w1), (3, .int w3), (5, .int w5), (6, .int w6), (7, .int w7), (8, .int w8)]) hx hb dX11_balanced_124 hl (by decide) rfl (fun ls hl => ?_)
            refine lv_aload_n hx hb dX11_balanced_126 rfl (lv_at hl 2 rfl) ?_
            refine lv_iconst (v := 1) hx hb dX11_balanced_127 (by decide) ?_
            refine lv_iload hx hb dX11_balanced_128 (lv_at hl 6 rfl) ?_
            obtain ⟨g120, hc119, hf⟩ := bd_some hf
            have hC121 := f11_join_ok l D cy ad ns M t i hI g116 (1 : Int32) w6 g120 hc119
            refine x_vv (n := 2) (As := [.int (1 : Int32), .int w6]) (rest := []) hx hb hml hts hown hK hW hA hC121 (hI.2 0 (by decide)) uI_o (hI.1 0 _) rfl rfl t_955 t_957 p_48 t_14 t_958 rfl (by decide +kernel) rfl rfl ⟨Nat.le_of_ble_eq_true rfl, Nat.le_of_ble_eq_true rfl⟩ hl.1 rfl (lv_room (Nat.le_of_ble_eq_true rfl)) dX11_balanced_130 ⟨(Nat.le_of_ble_eq_true rfl), (Nat.le_of_ble_eq_true rfl)⟩ (fun H locs hW => ?_)
            refine lv_goto (tgt := 293) hx hb dX11_balanced_133 (by decide) ?_
            refine lv_iinc (v := (w5 + (1 : Int32))) (lv' := [(5, .int (w5 + (1 : Int32))), (11, .int r117), (4, .int (w4 + (1 : Int32))), (0, .ref (ad t i 0)), (1, .int w1), (3, .int w3), (6, .int w6), (7, .int w7), (8, .int w8)]) hx hb dX11_balanced_293 hl (k := 5) rfl (by first | rfl | decide) (by decide) rfl (fun ls hl => ?_)
            refine lv_goto (tgt := 34) hx hb dX11_balanced_296 (by decide) ?_
            exact ih34 _ _ _ _ _ _ _ _ hf hW (lv_sub hl [3, 4, 5, 2, 0] rfl)
        refine lv_iload hx hb dX11_balanced_34 (lv_at hl 4 rfl) ?_
        refine lv_iload_n hx hb dX11_balanced_36 rfl (lv_at hl 2 rfl) ?_
        refine lv_icmp_ge (tgt := 299) hx hb dX11_balanced_37 (by decide) (fun c5 => ?_) (fun c5 => ?_)
        · replace hf := (if_pos c5).symm.trans hf
          refine lv_iload hx hb dX11_balanced_299 (lv_at hl 3 rfl) ?_
          exact x_iret hx hb hr hlk hK hW (congrArg Prod.fst (Option.some.inj hf)) (congrArg (fun q => (uI M t i (Prod.snd q))) (Option.some.inj hf)) dX11_balanced_301
        · replace hf := (if_neg c5).symm.trans hf
          refine lv_aload_n hx hb dX11_balanced_40 rfl (lv_at hl 0 rfl) ?_
          refine x_get hx hb hts hown hK hW (hI.2 0 (by decide)) uI_o (hI.1 0 _) rfl inX11 2 (by decide) t_742 rfl dX11_balanced_41 ?_
          refine lv_sipush (v := 1405) hx hb dX11_balanced_44 (by decide) ?_
          refine lv_iload hx hb dX11_balanced_47 (lv_at hl 4 rfl) ?_
          refine lv_iadd hx hb dX11_balanced_49 ?_
          obtain ⟨hi6, hf⟩ := rd_some hf
          refine x_iald hx hb hK hW (hI.2 1 (by decide)) uI_o (hI.1 1 _) hi6 dX11_balanced_50 ?_
          generalize g 1 (((1405 : Int32) + w5)).toNatClampNeg = v7 at hf ⊢
          refine lv_istore (lv' := [(6, .int v7), (0, .ref (ad t i 0)), (1, .int w1), (3, .int w3), (4, .int w4), (5, .int w5)]) hx hb dX11_balanced_51 hl (by decide) rfl (fun ls hl => ?_)
          refine lv_aload_n hx hb dX11_balanced_53 rfl (lv_at hl 1 rfl) ?_
          refine lv_iconst (v := 0) hx hb dX11_balanced_54 (by decide) ?_
          refine lv_iload hx hb dX11_balanced_55 (lv_at hl 0 rfl) ?_
          obtain ⟨r9, hc8, hf⟩ := bd_some hf
          have hC10 := f11_indexIn_ok l D cy ad ns M t i hI g (0 : Int32) v7 r9 hc8
          refine x_vi (n := 2) (As := [.int (0 : Int32), .int v7]) (rest := []) hx hb hml hts hown hK hW hA hC10 (hI.2 0 (by decide)) uI_o (hI.1 0 _) rfl rfl t_947 t_949 p_46 t_14 t_950 rfl (by decide +kernel) rfl rfl ⟨Nat.le_of_ble_eq_true rfl, Nat.le_of_ble_eq_true rfl⟩ hl.1 rfl (lv_room (Nat.le_of_ble_eq_true rfl)) dX11_balanced_57 ⟨(Nat.le_of_ble_eq_true rfl), (Nat.le_of_ble_eq_true rfl)⟩ (fun H locs hW => ?_)
          refine lv_istore (lv' := [(7, .int r9), (6, .int v7), (0, .ref (ad t i 0)), (1, .int w1), (3, .int w3), (4, .int w4), (5, .int w5)]) hx hb dX11_balanced_60 hl (by decide) rfl (fun ls hl => ?_)
          refine lv_aload_n hx hb dX11_balanced_62 rfl (lv_at hl 2 rfl) ?_
          refine lv_iconst (v := 1) hx hb dX11_balanced_63 (by decide) ?_
          refine lv_iload hx hb dX11_balanced_64 (lv_at hl 1 rfl) ?_
          obtain ⟨r12, hc11, hf⟩ := bd_some hf
          have hC13 := f11_indexIn_ok l D cy ad ns M t i hI g (1 : Int32) v7 r12 hc11
          refine x_vi (n := 2) (As := [.int (1 : Int32), .int v7]) (rest := []) hx hb hml hts hown hK hW hA hC13 (hI.2 0 (by decide)) uI_o (hI.1 0 _) rfl rfl t_947 t_949 p_46 t_14 t_950 rfl (by decide +kernel) rfl rfl ⟨Nat.le_of_ble_eq_true rfl, Nat.le_of_ble_eq_true rfl⟩ hl.1 rfl (lv_room (Nat.le_of_ble_eq_true rfl)) dX11_balanced_66 ⟨(Nat.le_of_ble_eq_true rfl), (Nat.le_of_ble_eq_true rfl)⟩ (fun H locs hW => ?_)
          refine lv_istore (lv' := [(8, .int r12), (7, .int r9), (6, .int v7), (0, .ref (ad t i 0)), (1, .int w1), (3, .int w3), (4, .int w4), (5, .int w5)]) hx hb dX11_balanced_69 hl (by decide) rfl (fun ls hl => ?_)
          refine lv_aload_n hx hb dX11_balanced_71 rfl (lv_at hl 3 rfl) ?_
          refine lv_iconst (v := 2) hx hb dX11_balanced_72 (by decide) ?_
          refine lv_iload hx hb dX11_balanced_73 (lv_at hl 2 rfl) ?_
          obtain ⟨r15, hc14, hf⟩ := bd_some hf
          have hC16 := f11_indexIn_ok l D cy ad ns M t i hI g (2 : Int32) v7 r15 hc14
          refine x_vi (n := 2) (As := [.int (2 : Int32), .int v7]) (rest := []) hx hb hml hts hown hK hW hA hC16 (hI.2 0 (by decide)) uI_o (hI.1 0 _) rfl rfl t_947 t_949 p_46 t_14 t_950 rfl (by decide +kernel) rfl rfl ⟨Nat.le_of_ble_eq_true rfl, Nat.le_of_ble_eq_true rfl⟩ hl.1 rfl (lv_room (Nat.le_of_ble_eq_true rfl)) dX11_balanced_75 ⟨(Nat.le_of_ble_eq_true rfl), (Nat.le_of_ble_eq_true rfl)⟩ (fun H locs hW => ?_)
          refine lv_istore (lv' := [(9, .int r15), (8, .int r12), (7, .int r9), (6, .int v7), (0, .ref (ad t i 0)), (1, .int w1), (3, .int w3), (4, .int w4), (5, .int w5)]) hx hb dX11_balanced_78 hl (by decide) rfl (fun ls hl => ?_)
          refine lv_aload_n hx hb dX11_balanced_80 rfl (lv_at hl 4 rfl) ?_
          refine lv_iconst (v := 3) hx hb dX11_balanced_81 (by decide) ?_
          refine lv_iload hx hb dX11_balanced_82 (lv_at hl 3 rfl) ?_
          obtain ⟨r18, hc17, hf⟩ := bd_some hf
          have hC19 := f11_indexIn_ok l D cy ad ns M t i hI g (3 : Int32) v7 r18 hc17
          refine x_vi (n := 2) (As := [.int (3 : Int32), .int v7]) (rest := []) hx hb hml hts hown hK hW hA hC19 (hI.2 0 (by decide)) uI_o (hI.1 0 _) rfl rfl t_947 t_949 p_46 t_14 t_950 rfl (by decide +kernel) rfl rfl ⟨Nat.le_of_ble_eq_true rfl, Nat.le_of_ble_eq_true rfl⟩ hl.1 rfl (lv_room (Nat.le_of_ble_eq_true rfl)) dX11_balanced_84 ⟨(Nat.le_of_ble_eq_true rfl), (Nat.le_of_ble_eq_true rfl)⟩ (fun H locs hW => ?_)
          refine lv_istore (lv' := [(10, .int r18), (9, .int r15), (8, .int r12), (7, .int r9), (6, .int v7), (0, .ref (ad t i 0)), (1, .int w1), (3, .int w3), (4, .int w4), (5, .int w5)]) hx hb dX11_balanced_87 hl (by decide) rfl (fun ls hl => ?_)
          refine lv_iload hx hb dX11_balanced_89 (lv_at hl 3 rfl) ?_
          refine lv_if_ge (tgt := 99) hx hb dX11_balanced_91 (by decide) (fun c20 => ?_) (fun c20 => ?_)
          · replace hf := (if_pos c20).symm.trans hf
            exact J99 _ _ _ _ _ _ _ _ _ _ _ hf hW (lv_sub hl [5, 6, 7, 8, 9, 4, 3, 2] rfl)
          · replace hf := (if_neg c20).symm.trans hf
            refine lv_iload hx hb dX11_balanced_94 (lv_at hl 2 rfl) ?_
            refine lv_if_lt (tgt := 136) hx hb dX11_balanced_96 (by decide) (fun c21 => ?_) (fun c21 => ?_)
            · replace hf := (if_pos c21).symm.trans hf
              refine lv_iload hx hb dX11_balanced_136 (lv_at hl 1 rfl) ?_
              refine lv_if_lt (tgt := 211) hx hb dX11_balanced_138 (by decide) (fun c22 => ?_) (fun c22 => ?_)
              · replace hf := (if_pos c22).symm.trans hf
                refine lv_iload hx hb dX11_balanced_211 (lv_at hl 0 rfl) ?_
                refine lv_if_lt (tgt := 286) hx hb dX11_balanced_213 (by decide) (fun c23 => ?_) (fun c23 => ?_)
                · replace hf := (if_pos c23).symm.trans hf
                  refine lv_aload_n hx hb dX11_balanced_286 rfl (lv_at hl 5 rfl) ?_
                  refine lv_iload hx hb dX11_balanced_287 (lv_at hl 4 rfl) ?_
                  refine lv_iload_n hx hb dX11_balanced_289 rfl (lv_at hl 6 rfl) ?_
                  obtain ⟨g25, hc24, hf⟩ := bd_some hf
                  have hC26 := f11_otherKey_ok l D cy ad ns M t i hI g v7 w1 g25 hc24
                  refine x_vv (n := 2) (As := [.int v7, .int w1]) (rest := []) hx hb hml hts hown hK hW hA hC26 (hI.2 0 (by decide)) uI_o (hI.1 0 _) rfl rfl t_963 t_965 p_50 t_14 t_966 rfl (by decide +kernel) rfl rfl ⟨Nat.le_of_ble_eq_true rfl, Nat.le_of_ble_eq_true rfl⟩ hl.1 rfl (lv_room (Nat.le_of_ble_eq_true rfl)) dX11_balanced_290 ⟨(Nat.le_of_ble_eq_true rfl), (Nat.le_of_ble_eq_true rfl)⟩ (fun H locs hW => ?_)
                  refine lv_iinc (v := (w5 + (1 : Int32))) (lv' := [(5, .int (w5 + (1 : Int32))), (10, .int r18), (9, .int r15), (8, .int r12), (7, .int r9), (6, .int v7), (0, .ref (ad t i 0)), (1, .int w1), (3, .int w3), (4, .int w4)]) hx hb dX11_balanced_293 hl (k := 9) rfl (by first | rfl | decide) (by decide) rfl (fun ls hl => ?_)
                  refine lv_goto (tgt := 34) hx hb dX11_balanced_296 (by decide) ?_
                  exact ih34 _ _ _ _ _ _ _ _ hf hW (lv_sub hl [6, 7, 8, 9, 0] rfl)
                · replace hf := (if_neg c23).symm.trans hf
                  refine lv_aload_n hx hb dX11_balanced_216 rfl (lv_at hl 5 rfl) ?_
                  refine x_get hx hb hts hown hK hW (hI.2 0 (by decide)) uI_o (hI.1 0 _) rfl inX11 15 (by decide) t_755 rfl dX11_balanced_217 ?_
                  refine lv_iconst (v := 2) hx hb dX11_balanced_220 (by decide) ?_
                  obtain ⟨hi27, hf⟩ := rd_some hf
                  refine x_iald hx hb hK hW (hI.2 11 (by decide)) uI_o (hI.1 11 _) hi27 dX11_balanced_221 ?_
                  generalize g 11 ((2 : Int32)).toNatClampNeg = v28 at hf ⊢
                  refine lv_aload_n hx hb dX11_balanced_222 rfl (lv_at hl 5 rfl) ?_
                  refine x_get hx hb hts hown hK hW (hI.2 0 (by decide)) uI_o (hI.1 0 _) rfl inX11 15 (by decide) t_755 rfl dX11_balanced_223 ?_
                  refine lv_iconst (v := 3) hx hb dX11_balanced_226 (by decide) ?_
                  obtain ⟨hi29, hf⟩ := rd_some hf
                  refine x_iald hx hb hK hW (hI.2 11 (by decide)) uI_o (hI.1 11 _) hi29 dX11_balanced_227 ?_
                  generalize g 11 ((3 : Int32)).toNatClampNeg = v30 at hf ⊢
                  obtain ⟨hz31, hf⟩ := nz_some hf
                  refine lv_idiv hx hb dX11_balanced_228 hz31 ?_
                  refine lv_istore (lv' := [(11, .int (v28 / v30)), (10, .int r18), (9, .int r15), (8, .int r12), (7, .int r9), (6, .int v7), (0, .ref (ad t i 0)), (1, .int w1), (3, .int w3), (4, .int w4), (5, .int w5)]) hx hb dX11_balanced_229 hl (by decide) rfl (fun ls hl => ?_)
                  refine lv_aload_n hx hb dX11_balanced_231 rfl (lv_at hl 6 rfl) ?_
                  refine lv_aload_n hx hb dX11_balanced_232 rfl (lv_at hl 6 rfl) ?_
                  refine x_get hx hb hts hown hK hW (hI.2 0 (by decide)) uI_o (hI.1 0 _) rfl inX11 16 (by decide) t_756 rfl dX11_balanced_233 ?_
                  refine lv_iload hx hb dX11_balanced_236 (lv_at hl 0 rfl) ?_
                  refine lv_iconst (v := 1) hx hb dX11_balanced_238 (by decide) ?_
                  refine lv_icmp_ge (tgt := 246) hx hb dX11_balanced_239 (by decide) (fun c32 => ?_) (fun c32 => ?_)
                  · replace hf := (if_pos c32).symm.trans hf
                    refine lv_iload hx hb dX11_balanced_246 (lv_at hl 0 rfl) ?_
                    refine lv_isub hx hb dX11_balanced_248 ?_
                    refine lv_iconst (v := 0) hx hb dX11_balanced_249 (by decide) ?_
                    refine lv_iload_n hx hb dX11_balanced_250 rfl (lv_at hl 7 rfl) ?_
                    obtain ⟨r34, hc33, hf⟩ := bd_some hf
                    have hC35 := f11_within_ok l D cy ad ns (uI M t i g) ((g 0 16) - (v28 / v30)) (0 : Int32) w1 r34 hc33
                    refine x_si (n := 3) (As := [.int ((g 0 16) - (v28 / v30)), .int (0 : Int32), .int w1]) (rest := [.ref (ad t i 0)]) hx hb hml hts hown hK hW hA hC35 t_733 t_734 t_14 t_735 rfl (by decide +kernel) rfl rfl ⟨Nat.le_of_ble_eq_true rfl, Nat.le_of_ble_eq_true rfl⟩ hl.1 rfl (lv_room (Nat.le_of_ble_eq_true rfl)) dX11_balanced_251 ⟨(Nat.le_of_ble_eq_true rfl), (Nat.le_of_ble_eq_true rfl)⟩ (fun H locs hW => ?_)
                    replace hf := st_some hf
                    refine x_put hx hb hts hown hK hW (hI.2 0 (by decide)) uI_o (hI.1 0 _) rfl inX11 tyX11 tyX11_ok nmX11 16 (by decide) t_756 rfl rfl (Nat.le_of_ble_eq_true rfl) (hI.1 0 _) uC_leaf dX11_balanced_254 (fun H locs hW => ?_)
                    generalize (va_up g 0 (upd (g 0) 16 r34)) = g36 at hf hW
                    refine lv_aload_n hx hb dX11_balanced_257 rfl (lv_at hl 6 rfl) ?_
                    refine lv_iconst (v := 1) hx hb dX11_balanced_258 (by decide) ?_
                    obtain ⟨g38, hc37, hf⟩ := bd_some hf
                    have hC39 := f11_makeRoom_ok l D cy ad ns M t i hI g36 (1 : Int32) g38 hc37
                    refine x_vv (n := 1) (As := [.int (1 : Int32)]) (rest := []) hx hb hml hts hown hK hW hA hC39 (hI.2 0 (by decide)) uI_o (hI.1 0 _) rfl rfl t_959 t_961 p_49 t_14 t_962 rfl (by decide +kernel) rfl rfl ⟨Nat.le_of_ble_eq_true rfl, Nat.le_of_ble_eq_true rfl⟩ hl.1 rfl (lv_room (Nat.le_of_ble_eq_true rfl)) dX11_balanced_259 ⟨(Nat.le_of_ble_eq_true rfl), (Nat.le_of_ble_eq_true rfl)⟩ (fun H locs hW => ?_)
                    refine lv_aload_n hx hb dX11_balanced_262 rfl (lv_at hl 6 rfl) ?_
                    refine lv_iconst (v := 3) hx hb dX11_balanced_263 (by decide) ?_
                    refine lv_aload_n hx hb dX11_balanced_264 rfl (lv_at hl 6 rfl) ?_
                    refine lv_iconst (v := 3) hx hb dX11_balanced_265 (by decide) ?_
                    refine lv_iload hx hb dX11_balanced_266 (lv_at hl 5 rfl) ?_
                    obtain ⟨r41, hc40, hf⟩ := bd_some hf
                    have hC42 := f11_indexIn_ok l D cy ad ns M t i hI g38 (3 : Int32) v7 r41 hc40
                    refine x_vi (n := 2) (As := [.int (3 : Int32), .int v7]) (rest := [.int (3 : Int32), .ref (ad t i 0)]) hx hb hml hts hown hK hW hA hC42 (hI.2 0 (by decide)) uI_o (hI.1 0 _) rfl rfl t_947 t_949 p_46 t_14 t_950 rfl (by decide +kernel) rfl rfl ⟨Nat.le_of_ble_eq_true rfl, Nat.le_of_ble_eq_true rfl⟩ hl.1 rfl (lv_room (Nat.le_of_ble_eq_true rfl)) dX11_balanced_268 ⟨(Nat.le_of_ble_eq_true rfl), (Nat.le_of_ble_eq_true rfl)⟩ (fun H locs hW => ?_)
                    obtain ⟨r45, g44, hc43, hf⟩ := b2_some hf
                    have hC46 := f11_leave_ok l D cy ad ns M t i hI g38 (3 : Int32) r41 r45 g44 hc43
                    refine x_vi (n := 2) (As := [.int (3 : Int32), .int r41]) (rest := []) hx hb hml hts hown hK hW hA hC46 (hI.2 0 (by decide)) uI_o (hI.1 0 _) rfl rfl t_951 t_953 p_47 t_14 t_954 rfl (by decide +kernel) rfl rfl ⟨Nat.le_of_ble_eq_true rfl, Nat.le_of_ble_eq_true rfl⟩ hl.1 rfl (lv_room (Nat.le_of_ble_eq_true rfl)) dX11_balanced_271 ⟨(Nat.le_of_ble_eq_true rfl), (Nat.le_of_ble_eq_true rfl)⟩ (fun H locs hW => ?_)
                    refine lv_istore (lv' := [(12, .int r45), (11, .int (v28 / v30)), (10, .int r18), (9, .int r15), (8, .int r12), (7, .int r9), (6, .int v7), (0, .ref (ad t i 0)), (1, .int w1), (3, .int w3), (4, .int w4), (5, .int w5)]) hx hb dX11_balanced_274 hl (by decide) rfl (fun ls hl => ?_)
                    refine lv_aload_n hx hb dX11_balanced_276 rfl (lv_at hl 7 rfl) ?_
                    refine lv_iconst (v := 1) hx hb dX11_balanced_277 (by decide) ?_
                    refine lv_iload hx hb dX11_balanced_278 (lv_at hl 6 rfl) ?_
                    obtain ⟨g48, hc47, hf⟩ := bd_some hf
                    have hC49 := f11_join_ok l D cy ad ns M t i hI g44 (1 : Int32) v7 g48 hc47
                    refine x_vv (n := 2) (As := [.int (1 : Int32), .int v7]) (rest := []) hx hb hml hts hown hK hW hA hC49 (hI.2 0 (by decide)) uI_o (hI.1 0 _) rfl rfl t_955 t_957 p_48 t_14 t_958 rfl (by decide +kernel) rfl rfl ⟨Nat.le_of_ble_eq_true rfl, Nat.le_of_ble_eq_true rfl⟩ hl.1 rfl (lv_room (Nat.le_of_ble_eq_true rfl)) dX11_balanced_280 ⟨(Nat.le_of_ble_eq_true rfl), (Nat.le_of_ble_eq_true rfl)⟩ (fun H locs hW => ?_)
                    refine lv_goto (tgt := 293) hx hb dX11_balanced_283 (by decide) ?_
                    refine lv_iinc (v := (w5 + (1 : Int32))) (lv' := [(5, .int (w5 + (1 : Int32))), (12, .int r45), (11, .int (v28 / v30)), (10, .int r18), (9, .int r15), (8, .int r12), (7, .int r9), (6, .int v7), (0, .ref (ad t i 0)), (1, .int w1), (3, .int w3), (4, .int w4)]) hx hb dX11_balanced_293 hl (k := 11) rfl (by first | rfl | decide) (by decide) rfl (fun ls hl => ?_)
                    refine lv_goto (tgt := 34) hx hb dX11_balanced_296 (by decide) ?_
                    exact ih34 _ _ _ _ _ _ _ _ hf hW (lv_sub hl [8, 9, 10, 11, 0] rfl)
                  · replace hf := (if_neg c32).symm.trans hf
                    refine lv_iconst (v := 1) hx hb dX11_balanced_242 (by decide) ?_
                    refine lv_goto (tgt := 248) hx hb dX11_balanced_243 (by decide) ?_
                    refine lv_isub hx hb dX11_balanced_248 ?_
                    refine lv_iconst (v := 0) hx hb dX11_balanced_249 (by decide) ?_
                    refine lv_iload_n hx hb dX11_balanced_250 rfl (lv_at hl 7 rfl) ?_
                    obtain ⟨r51, hc50, hf⟩ := bd_some hf
                    have hC52 := f11_within_ok l D cy ad ns (uI M t i g) ((g 0 16) - (1 : Int32)) (0 : Int32) w1 r51 hc50
                    refine x_si (n := 3) (As := [.int ((g 0 16) - (1 : Int32)), .int (0 : Int32), .int w1]) (rest := [.ref (ad t i 0)]) hx hb hml hts hown hK hW hA hC52 t_733 t_734 t_14 t_735 rfl (by decide +kernel) rfl rfl ⟨Nat.le_of_ble_eq_true rfl, Nat.le_of_ble_eq_true rfl⟩ hl.1 rfl (lv_room (Nat.le_of_ble_eq_true rfl)) dX11_balanced_251 ⟨(Nat.le_of_ble_eq_true rfl), (Nat.le_of_ble_eq_true rfl)⟩ (fun H locs hW => ?_)
                    replace hf := st_some hf
                    refine x_put hx hb hts hown hK hW (hI.2 0 (by decide)) uI_o (hI.1 0 _) rfl inX11 tyX11 tyX11_ok nmX11 16 (by decide) t_756 rfl rfl (Nat.le_of_ble_eq_true rfl) (hI.1 0 _) uC_leaf dX11_balanced_254 (fun H locs hW => ?_)
                    generalize (va_up g 0 (upd (g 0) 16 r51)) = g53 at hf hW
                    refine lv_aload_n hx hb dX11_balanced_257 rfl (lv_at hl 6 rfl) ?_
                    refine lv_iconst (v := 1) hx hb dX11_balanced_258 (by decide) ?_
                    obtain ⟨g55, hc54, hf⟩ := bd_some hf
                    have hC56 := f11_makeRoom_ok l D cy ad ns M t i hI g53 (1 : Int32) g55 hc54
                    refine x_vv (n := 1) (As := [.int (1 : Int32)]) (rest := []) hx hb hml hts hown hK hW hA hC56 (hI.2 0 (by decide)) uI_o (hI.1 0 _) rfl rfl t_959 t_961 p_49 t_14 t_962 rfl (by decide +kernel) rfl rfl ⟨Nat.le_of_ble_eq_true rfl, Nat.le_of_ble_eq_true rfl⟩ hl.1 rfl (lv_room (Nat.le_of_ble_eq_true rfl)) dX11_balanced_259 ⟨(Nat.le_of_ble_eq_true rfl), (Nat.le_of_ble_eq_true rfl)⟩ (fun H locs hW => ?_)
                    refine lv_aload_n hx hb dX11_balanced_262 rfl (lv_at hl 6 rfl) ?_
                    refine lv_iconst (v := 3) hx hb dX11_balanced_263 (by decide) ?_
                    refine lv_aload_n hx hb dX11_balanced_264 rfl (lv_at hl 6 rfl) ?_
                    refine lv_iconst (v := 3) hx hb dX11_balanced_265 (by decide) ?_
                    refine lv_iload hx hb dX11_balanced_266 (lv_at hl 5 rfl) ?_
                    obtain ⟨r58, hc57, hf⟩ := bd_some hf
                    have hC59 := f11_indexIn_ok l D cy ad ns M t i hI g55 (3 : Int32) v7 r58 hc57
                    refine x_vi (n := 2) (As := [.int (3 : Int32), .int v7]) (rest := [.int (3 : Int32), .ref (ad t i 0)]) hx hb hml hts hown hK hW hA hC59 (hI.2 0 (by decide)) uI_o (hI.1 0 _) rfl rfl t_947 t_949 p_46 t_14 t_950 rfl (by decide +kernel) rfl rfl ⟨Nat.le_of_ble_eq_true rfl, Nat.le_of_ble_eq_true rfl⟩ hl.1 rfl (lv_room (Nat.le_of_ble_eq_true rfl)) dX11_balanced_268 ⟨(Nat.le_of_ble_eq_true rfl), (Nat.le_of_ble_eq_true rfl)⟩ (fun H locs hW => ?_)
                    obtain ⟨r62, g61, hc60, hf⟩ := b2_some hf
                    have hC63 := f11_leave_ok l D cy ad ns M t i hI g55 (3 : Int32) r58 r62 g61 hc60
                    refine x_vi (n := 2) (As := [.int (3 : Int32), .int r58]) (rest := []) hx hb hml hts hown hK hW hA hC63 (hI.2 0 (by decide)) uI_o (hI.1 0 _) rfl rfl t_951 t_953 p_47 t_14 t_954 rfl (by decide +kernel) rfl rfl ⟨Nat.le_of_ble_eq_true rfl, Nat.le_of_ble_eq_true rfl⟩ hl.1 rfl (lv_room (Nat.le_of_ble_eq_true rfl)) dX11_balanced_271 ⟨(Nat.le_of_ble_eq_true rfl), (Nat.le_of_ble_eq_true rfl)⟩ (fun H locs hW => ?_)
                    refine lv_istore (lv' := [(12, .int r62), (11, .int (v28 / v30)), (10, .int r18), (9, .int r15), (8, .int r12), (7, .int r9), (6, .int v7), (0, .ref (ad t i 0)), (1, .int w1), (3, .int w3), (4, .int w4), (5, .int w5)]) hx hb dX11_balanced_274 hl (by decide) rfl (fun ls hl => ?_)
                    refine lv_aload_n hx hb dX11_balanced_276 rfl (lv_at hl 7 rfl) ?_
                    refine lv_iconst (v := 1) hx hb dX11_balanced_277 (by decide) ?_
                    refine lv_iload hx hb dX11_balanced_278 (lv_at hl 6 rfl) ?_
                    obtain ⟨g65, hc64, hf⟩ := bd_some hf
                    have hC66 := f11_join_ok l D cy ad ns M t i hI g61 (1 : Int32) v7 g65 hc64
                    refine x_vv (n := 2) (As := [.int (1 : Int32), .int v7]) (rest := []) hx hb hml hts hown hK hW hA hC66 (hI.2 0 (by decide)) uI_o (hI.1 0 _) rfl rfl t_955 t_957 p_48 t_14 t_958 rfl (by decide +kernel) rfl rfl ⟨Nat.le_of_ble_eq_true rfl, Nat.le_of_ble_eq_true rfl⟩ hl.1 rfl (lv_room (Nat.le_of_ble_eq_true rfl)) dX11_balanced_280 ⟨(Nat.le_of_ble_eq_true rfl), (Nat.le_of_ble_eq_true rfl)⟩ (fun H locs hW => ?_)
                    refine lv_goto (tgt := 293) hx hb dX11_balanced_283 (by decide) ?_
                    refine lv_iinc (v := (w5 + (1 : Int32))) (lv' := [(5, .int (w5 + (1 : Int32))), (12, .int r62), (11, .int (v28 / v30)), (10, .int r18), (9, .int r15), (8, .int r12), (7, .int r9), (6, .int v7), (0, .ref (ad t i 0)), (1, .int w1), (3, .int w3), (4, .int w4)]) hx hb dX11_balanced_293 hl (k := 11) rfl (by first | rfl | decide) (by decide) rfl (fun ls hl => ?_)
                    refine lv_goto (tgt := 34) hx hb dX11_balanced_296 (by decide) ?_
                    exact ih34 _ _ _ _ _ _ _ _ hf hW (lv_sub hl [8, 9, 10, 11, 0] rfl)
              · replace hf := (if_neg c22).symm.trans hf
                refine lv_aload_n hx hb dX11_balanced_141 rfl (lv_at hl 5 rfl) ?_
                refine x_get hx hb hts hown hK hW (hI.2 0 (by decide)) uI_o (hI.1 0 _) rfl inX11 15 (by decide) t_755 rfl dX11_balanced_142 ?_
                refine lv_iconst (v := 3) hx hb dX11_balanced_145 (by decide) ?_
                obtain ⟨hi67, hf⟩ := rd_some hf
                refine x_iald hx hb hK hW (hI.2 11 (by decide)) uI_o (hI.1 11 _) hi67 dX11_balanced_146 ?_
                generalize g 11 ((3 : Int32)).toNatClampNeg = v68 at hf ⊢
                refine lv_aload_n hx hb dX11_balanced_147 rfl (lv_at hl 5 rfl) ?_
                refine x_get hx hb hts hown hK hW (hI.2 0 (by decide)) uI_o (hI.1 0 _) rfl inX11 15 (by decide) t_755 rfl dX11_balanced_148 ?_
                refine lv_iconst (v := 2) hx hb dX11_balanced_151 (by decide) ?_
                obtain ⟨hi69, hf⟩ := rd_some hf
                refine x_iald hx hb hK hW (hI.2 11 (by decide)) uI_o (hI.1 11 _) hi69 dX11_balanced_152 ?_
                generalize g 11 ((2 : Int32)).toNatClampNeg = v70 at hf ⊢
                obtain ⟨hz71, hf⟩ := nz_some hf
                refine lv_idiv hx hb dX11_balanced_153 hz71 ?_
                refine lv_istore (lv' := [(11, .int (v68 / v70)), (10, .int r18), (9, .int r15), (8, .int r12), (7, .int r9), (6, .int v7), (0, .ref (ad t i 0)), (1, .int w1), (3, .int w3), (4, .int w4), (5, .int w5)]) hx hb dX11_balanced_154 hl (by decide) rfl (fun ls hl => ?_)
                refine lv_aload_n hx hb dX11_balanced_156 rfl (lv_at hl 6 rfl) ?_
                refine lv_aload_n hx hb dX11_balanced_157 rfl (lv_at hl 6 rfl) ?_
                refine x_get hx hb hts hown hK hW (hI.2 0 (by decide)) uI_o (hI.1 0 _) rfl inX11 16 (by decide) t_756 rfl dX11_balanced_158 ?_
                refine lv_iload hx hb dX11_balanced_161 (lv_at hl 0 rfl) ?_
                refine lv_iconst (v := 1) hx hb dX11_balanced_163 (by decide) ?_
                refine lv_icmp_ge (tgt := 171) hx hb dX11_balanced_164 (by decide) (fun c72 => ?_) (fun c72 => ?_)
                · replace hf := (if_pos c72).symm.trans hf
                  refine lv_iload hx hb dX11_balanced_171 (lv_at hl 0 rfl) ?_
                  refine lv_iadd hx hb dX11_balanced_173 ?_
                  refine lv_iconst (v := 0) hx hb dX11_balanced_174 (by decide) ?_
                  refine lv_iload_n hx hb dX11_balanced_175 rfl (lv_at hl 7 rfl) ?_
                  obtain ⟨r74, hc73, hf⟩ := bd_some hf
                  have hC75 := f11_within_ok l D cy ad ns (uI M t i g) ((g 0 16) + (v68 / v70)) (0 : Int32) w1 r74 hc73
                  refine x_si (n := 3) (As := [.int ((g 0 16) + (v68 / v70)), .int (0 : Int32), .int w1]) (rest := [.ref (ad t i 0)]) hx hb hml hts hown hK hW hA hC75 t_733 t_734 t_14 t_735 rfl (by decide +kernel) rfl rfl ⟨Nat.le_of_ble_eq_true rfl, Nat.le_of_ble_eq_true rfl⟩ hl.1 rfl (lv_room (Nat.le_of_ble_eq_true rfl)) dX11_balanced_176 ⟨(Nat.le_of_ble_eq_true rfl), (Nat.le_of_ble_eq_true rfl)⟩ (fun H locs hW => ?_)
                  replace hf := st_some hf
                  refine x_put hx hb hts hown hK hW (hI.2 0 (by decide)) uI_o (hI.1 0 _) rfl inX11 tyX11 tyX11_ok nmX11 16 (by decide) t_756 rfl rfl (Nat.le_of_ble_eq_true rfl) (hI.1 0 _) uC_leaf dX11_balanced_179 (fun H locs hW => ?_)
                  generalize (va_up g 0 (upd (g 0) 16 r74)) = g76 at hf hW
                  refine lv_aload_n hx hb dX11_balanced_182 rfl (lv_at hl 6 rfl) ?_
                  refine lv_iconst (v := 0) hx hb dX11_balanced_183 (by decide) ?_
                  obtain ⟨g78, hc77, hf⟩ := bd_some hf
                  have hC79 := f11_makeRoom_ok l D cy ad ns M t i hI g76 (0 : Int32) g78 hc77
                  refine x_vv (n := 1) (As := [.int (0 : Int32)]) (rest := []) hx hb hml hts hown hK hW hA hC79 (hI.2 0 (by decide)) uI_o (hI.1 0 _) rfl rfl t_959 t_961 p_49 t_14 t_962 rfl (by decide +kernel) rfl rfl ⟨Nat.le_of_ble_eq_true rfl, Nat.le_of_ble_eq_true rfl⟩ hl.1 rfl (lv_room (Nat.le_of_ble_eq_true rfl)) dX11_balanced_184 ⟨(Nat.le_of_ble_eq_true rfl), (Nat.le_of_ble_eq_true rfl)⟩ (fun H locs hW => ?_)
                  refine lv_aload_n hx hb dX11_balanced_187 rfl (lv_at hl 6 rfl) ?_
                  refine lv_iconst (v := 2) hx hb dX11_balanced_188 (by decide) ?_
                  refine lv_aload_n hx hb dX11_balanced_189 rfl (lv_at hl 6 rfl) ?_
                  refine lv_iconst (v := 2) hx hb dX11_balanced_190 (by decide) ?_
                  refine lv_iload hx hb dX11_balanced_191 (lv_at hl 5 rfl) ?_
                  obtain ⟨r81, hc80, hf⟩ := bd_some hf
                  have hC82 := f11_indexIn_ok l D cy ad ns M t i hI g78 (2 : Int32) v7 r81 hc80
                  refine x_vi (n := 2) (As := [.int (2 : Int32), .int v7]) (rest := [.int (2 : Int32), .ref (ad t i 0)]) hx hb hml hts hown hK hW hA hC82 (hI.2 0 (by decide)) uI_o (hI.1 0 _) rfl rfl t_947 t_949 p_46 t_14 t_950 rfl (by decide +kernel) rfl rfl ⟨Nat.le_of_ble_eq_true rfl, Nat.le_of_ble_eq_true rfl⟩ hl.1 rfl (lv_room (Nat.le_of_ble_eq_true rfl)) dX11_balanced_193 ⟨(Nat.le_of_ble_eq_true rfl), (Nat.le_of_ble_eq_true rfl)⟩ (fun H locs hW => ?_)
                  obtain ⟨r85, g84, hc83, hf⟩ := b2_some hf
                  have hC86 := f11_leave_ok l D cy ad ns M t i hI g78 (2 : Int32) r81 r85 g84 hc83
                  refine x_vi (n := 2) (As := [.int (2 : Int32), .int r81]) (rest := []) hx hb hml hts hown hK hW hA hC86 (hI.2 0 (by decide)) uI_o (hI.1 0 _) rfl rfl t_951 t_953 p_47 t_14 t_954 rfl (by decide +kernel) rfl rfl ⟨Nat.le_of_ble_eq_true rfl, Nat.le_of_ble_eq_true rfl⟩ hl.1 rfl (lv_room (Nat.le_of_ble_eq_true rfl)) dX11_balanced_196 ⟨(Nat.le_of_ble_eq_true rfl), (Nat.le_of_ble_eq_true rfl)⟩ (fun H locs hW => ?_)
                  refine lv_istore (lv' := [(12, .int r85), (11, .int (v68 / v70)), (10, .int r18), (9, .int r15), (8, .int r12), (7, .int r9), (6, .int v7), (0, .ref (ad t i 0)), (1, .int w1), (3, .int w3), (4, .int w4), (5, .int w5)]) hx hb dX11_balanced_199 hl (by decide) rfl (fun ls hl => ?_)
                  refine lv_aload_n hx hb dX11_balanced_201 rfl (lv_at hl 7 rfl) ?_
                  refine lv_iconst (v := 1) hx hb dX11_balanced_202 (by decide) ?_
                  refine lv_iload hx hb dX11_balanced_203 (lv_at hl 6 rfl) ?_
                  obtain ⟨g88, hc87, hf⟩ := bd_some hf
                  have hC89 := f11_join_ok l D cy ad ns M t i hI g84 (1 : Int32) v7 g88 hc87
                  refine x_vv (n := 2) (As := [.int (1 : Int32), .int v7]) (rest := []) hx hb hml hts hown hK hW hA hC89 (hI.2 0 (by decide)) uI_o (hI.1 0 _) rfl rfl t_955 t_957 p_48 t_14 t_958 rfl (by decide +kernel) rfl rfl ⟨Nat.le_of_ble_eq_true rfl, Nat.le_of_ble_eq_true rfl⟩ hl.1 rfl (lv_room (Nat.le_of_ble_eq_true rfl)) dX11_balanced_205 ⟨(Nat.le_of_ble_eq_true rfl), (Nat.le_of_ble_eq_true rfl)⟩ (fun H locs hW => ?_)
                  refine lv_goto (tgt := 293) hx hb dX11_balanced_208 (by decide) ?_
                  refine lv_iinc (v := (w5 + (1 : Int32))) (lv' := [(5, .int (w5 + (1 : Int32))), (12, .int r85), (11, .int (v68 / v70)), (10, .int r18), (9, .int r15), (8, .int r12), (7, .int r9), (6, .int v7), (0, .ref (ad t i 0)), (1, .int w1), (3, .int w3), (4, .int w4)]) hx hb dX11_balanced_293 hl (k := 11) rfl (by first | rfl | decide) (by decide) rfl (fun ls hl => ?_)
                  refine lv_goto (tgt := 34) hx hb dX11_balanced_296 (by decide) ?_
                  exact ih34 _ _ _ _ _ _ _ _ hf hW (lv_sub hl [8, 9, 10, 11, 0] rfl)
                · replace hf := (if_neg c72).symm.trans hf
                  refine lv_iconst (v := 1) hx hb dX11_balanced_167 (by decide) ?_
                  refine lv_goto (tgt := 173) hx hb dX11_balanced_168 (by decide) ?_
                  refine lv_iadd hx hb dX11_balanced_173 ?_
                  refine lv_iconst (v := 0) hx hb dX11_balanced_174 (by decide) ?_
                  refine lv_iload_n hx hb dX11_balanced_175 rfl (lv_at hl 7 rfl) ?_
                  obtain ⟨r91, hc90, hf⟩ := bd_some hf
                  have hC92 := f11_within_ok l D cy ad ns (uI M t i g) ((g 0 16) + (1 : Int32)) (0 : Int32) w1 r91 hc90
                  refine x_si (n := 3) (As := [.int ((g 0 16) + (1 : Int32)), .int (0 : Int32), .int w1]) (rest := [.ref (ad t i 0)]) hx hb hml hts hown hK hW hA hC92 t_733 t_734 t_14 t_735 rfl (by decide +kernel) rfl rfl ⟨Nat.le_of_ble_eq_true rfl, Nat.le_of_ble_eq_true rfl⟩ hl.1 rfl (lv_room (Nat.le_of_ble_eq_true rfl)) dX11_balanced_176 ⟨(Nat.le_of_ble_eq_true rfl), (Nat.le_of_ble_eq_true rfl)⟩ (fun H locs hW => ?_)
                  replace hf := st_some hf
                  refine x_put hx hb hts hown hK hW (hI.2 0 (by decide)) uI_o (hI.1 0 _) rfl inX11 tyX11 tyX11_ok nmX11 16 (by decide) t_756 rfl rfl (Nat.le_of_ble_eq_true rfl) (hI.1 0 _) uC_leaf dX11_balanced_179 (fun H locs hW => ?_)
                  generalize (va_up g 0 (upd (g 0) 16 r91)) = g93 at hf hW
                  refine lv_aload_n hx hb dX11_balanced_182 rfl (lv_at hl 6 rfl) ?_
                  refine lv_iconst (v := 0) hx hb dX11_balanced_183 (by decide) ?_
                  obtain ⟨g95, hc94, hf⟩ := bd_some hf
                  have hC96 := f11_makeRoom_ok l D cy ad ns M t i hI g93 (0 : Int32) g95 hc94
                  refine x_vv (n := 1) (As := [.int (0 : Int32)]) (rest := []) hx hb hml hts hown hK hW hA hC96 (hI.2 0 (by decide)) uI_o (hI.1 0 _) rfl rfl t_959 t_961 p_49 t_14 t_962 rfl (by decide +kernel) rfl rfl ⟨Nat.le_of_ble_eq_true rfl, Nat.le_of_ble_eq_true rfl⟩ hl.1 rfl (lv_room (Nat.le_of_ble_eq_true rfl)) dX11_balanced_184 ⟨(Nat.le_of_ble_eq_true rfl), (Nat.le_of_ble_eq_true rfl)⟩ (fun H locs hW => ?_)
                  refine lv_aload_n hx hb dX11_balanced_187 rfl (lv_at hl 6 rfl) ?_
                  refine lv_iconst (v := 2) hx hb dX11_balanced_188 (by decide) ?_
                  refine lv_aload_n hx hb dX11_balanced_189 rfl (lv_at hl 6 rfl) ?_
                  refine lv_iconst (v := 2) hx hb dX11_balanced_190 (by decide) ?_
                  refine lv_iload hx hb dX11_balanced_191 (lv_at hl 5 rfl) ?_
                  obtain ⟨r98, hc97, hf⟩ := bd_some hf
                  have hC99 := f11_indexIn_ok l D cy ad ns M t i hI g95 (2 : Int32) v7 r98 hc97
                  refine x_vi (n := 2) (As := [.int (2 : Int32), .int v7]) (rest := [.int (2 : Int32), .ref (ad t i 0)]) hx hb hml hts hown hK hW hA hC99 (hI.2 0 (by decide)) uI_o (hI.1 0 _) rfl rfl t_947 t_949 p_46 t_14 t_950 rfl (by decide +kernel) rfl rfl ⟨Nat.le_of_ble_eq_true rfl, Nat.le_of_ble_eq_true rfl⟩ hl.1 rfl (lv_room (Nat.le_of_ble_eq_true rfl)) dX11_balanced_193 ⟨(Nat.le_of_ble_eq_true rfl), (Nat.le_of_ble_eq_true rfl)⟩ (fun H locs hW => ?_)
                  obtain ⟨r102, g101, hc100, hf⟩ := b2_some hf
                  have hC103 := f11_leave_ok l D cy ad ns M t i hI g95 (2 : Int32) r98 r102 g101 hc100
                  refine x_vi (n := 2) (As := [.int (2 : Int32), .int r98]) (rest := []) hx hb hml hts hown hK hW hA hC103 (hI.2 0 (by decide)) uI_o (hI.1 0 _) rfl rfl t_951 t_953 p_47 t_14 t_954 rfl (by decide +kernel) rfl rfl ⟨Nat.le_of_ble_eq_true rfl, Nat.le_of_ble_eq_true rfl⟩ hl.1 rfl (lv_room (Nat.le_of_ble_eq_true rfl)) dX11_balanced_196 ⟨(Nat.le_of_ble_eq_true rfl), (Nat.le_of_ble_eq_true rfl)⟩ (fun H locs hW => ?_)
                  refine lv_istore (lv' := [(12, .int r102), (11, .int (v68 / v70)), (10, .int r18), (9, .int r15), (8, .int r12), (7, .int r9), (6, .int v7), (0, .ref (ad t i 0)), (1, .int w1), (3, .int w3), (4, .int w4), (5, .int w5)]) hx hb dX11_balanced_199 hl (by decide) rfl (fun ls hl => ?_)
                  refine lv_aload_n hx hb dX11_balanced_201 rfl (lv_at hl 7 rfl) ?_
                  refine lv_iconst (v := 1) hx hb dX11_balanced_202 (by decide) ?_
                  refine lv_iload hx hb dX11_balanced_203 (lv_at hl 6 rfl) ?_
                  obtain ⟨g105, hc104, hf⟩ := bd_some hf
                  have hC106 := f11_join_ok l D cy ad ns M t i hI g101 (1 : Int32) v7 g105 hc104
                  refine x_vv (n := 2) (As := [.int (1 : Int32), .int v7]) (rest := []) hx hb hml hts hown hK hW hA hC106 (hI.2 0 (by decide)) uI_o (hI.1 0 _) rfl rfl t_955 t_957 p_48 t_14 t_958 rfl (by decide +kernel) rfl rfl ⟨Nat.le_of_ble_eq_true rfl, Nat.le_of_ble_eq_true rfl⟩ hl.1 rfl (lv_room (Nat.le_of_ble_eq_true rfl)) dX11_balanced_205 ⟨(Nat.le_of_ble_eq_true rfl), (Nat.le_of_ble_eq_true rfl)⟩ (fun H locs hW => ?_)
                  refine lv_goto (tgt := 293) hx hb dX11_balanced_208 (by decide) ?_
                  refine lv_iinc (v := (w5 + (1 : Int32))) (lv' := [(5, .int (w5 + (1 : Int32))), (12, .int r102), (11, .int (v68 / v70)), (10, .int r18), (9, .int r15), (8, .int r12), (7, .int r9), (6, .int v7), (0, .ref (ad t i 0)), (1, .int w1), (3, .int w3), (4, .int w4)]) hx hb dX11_balanced_293 hl (k := 11) rfl (by first | rfl | decide) (by decide) rfl (fun ls hl => ?_)
                  refine lv_goto (tgt := 34) hx hb dX11_balanced_296 (by decide) ?_
                  exact ih34 _ _ _ _ _ _ _ _ hf hW (lv_sub hl [8, 9, 10, 11, 0] rfl)
            · replace hf := (if_neg c21).symm.trans hf
              exact J99 _ _ _ _ _ _ _ _ _ _ _ hf hW (lv_sub hl [5, 6, 7, 8, 9, 4, 3, 2] rfl)
    exact L34 NF _ _ _ _ _ _ _ _ hf hW (lv_sub hl [2, 3, 5, 1, 0] rfl)
  refine lv_iconst (v := 0) hx hb dX11_balanced_0 (by decide) ?_
  refine lv_istore (lv' := [(4, .int (0 : Int32)), (0, .ref (ad t i 0)), (1, .int a1), (2, .int a2), (3, .int a3)]) hx hb dX11_balanced_1 hl (by decide) rfl (fun ls hl => ?_)
  have L3 : ∀ (k : Nat) (w1 : Int32) (w2 : Int32) (w3 : Int32) (w4 : Int32) (g : Sg) (H : Heap) (locs : List Loc) (ls : Array Slot), f11_balanced_l3 k w1 w2 w3 w4 g = some (r, m2) → Wl D cy ad ns (Aw ad ns s.heap.size) s.heap (uI M t i g) H locs → lv_has ls 13 [(0, .ref (ad t i 0)), (1, .int w1), (2, .int w2), (3, .int w3), (4, .int w4)] → W p l e { frames := 3, cells := 0, slots := 0, locals := 69 } s m ([.ref (ad t i 0), .int a1, .int a2, .int a3] : List Value).toArray below meth c H locs 0 0 (QI below D cy ad ns [.ref (ad t i 0), .int a1, .int a2, .int a3] s r (uI M t i m2)) (F0 m 3 ls []) := by
    intro k
    induction k with
    | zero => intro w1 w2 w3 w4 g H locs ls hf; exact absurd hf (by simp [f11_balanced_l3])
    | succ k3 ih3 =>
      intro w1 w2 w3 w4 g H locs ls hf hW hl
      have hf : f11_balanced_b3 (f11_balanced_l3 k3) w1 w2 w3 w4 g = some (r, m2) := hf
      unfold f11_balanced_b3 at hf
      refine lv_iload hx hb dX11_balanced_3 (lv_at hl 4 rfl) ?_
      refine lv_iconst (v := 4) hx hb dX11_balanced_5 (by decide) ?_
      refine lv_icmp_ge (tgt := 23) hx hb dX11_balanced_6 (by decide) (fun c1 => ?_) (fun c1 => ?_)
      · replace hf := (if_pos c1).symm.trans hf
        exact J23 _ _ _ _ _ _ _ hf hW (lv_sub hl [0, 1, 2, 3] rfl)
      · replace hf := (if_neg c1).symm.trans hf
        refine lv_aload_n hx hb dX11_balanced_9 rfl (lv_at hl 0 rfl) ?_
        refine x_get hx hb hts hown hK hW (hI.2 0 (by decide)) uI_o (hI.1 0 _) rfl inX11 15 (by decide) t_755 rfl dX11_balanced_10 ?_
        refine lv_iload hx hb dX11_balanced_13 (lv_at hl 4 rfl) ?_
        refine lv_iconst (v := 0) hx hb dX11_balanced_15 (by decide) ?_
        obtain ⟨hi2, hf⟩ := wr_some hf
        refine x_iast hx hb hK hW (hI.2 11 (by decide)) uI_o (fun _ => (hI.1 11 _)) hi2 uC_leaf dX11_balanced_16 (fun H locs hW => ?_)
        generalize (va_up g 11 (upd (g 11) (w4).toNatClampNeg (0 : Int32))) = g3 at hf hW
        refine lv_iinc (v := (w4 + (1 : Int32))) (lv' := [(4, .int (w4 + (1 : Int32))), (0, .ref (ad t i 0)), (1, .int w1), (2, .int w2), (3, .int w3)]) hx hb dX11_balanced_17 hl (k := 4) rfl (by first | rfl | decide) (by decide) rfl (fun ls hl => ?_)
        refine lv_goto (tgt := 3) hx hb dX11_balanced_20 (by decide) ?_
        exact ih3 _ _ _ _ _ _ _ _ hf hW (lv_sub hl [1, 2, 3, 4, 0] rfl)
  exact L3 NF _ _ _ _ _ _ _ _ hf hW (lv_sub hl [1, 2, 3, 4, 0] rfl)
def f11_replay_j112 (rec80 : Int32 → Int32 → Int32 → Sg → Option (Int32 × Sg)) (w1 : Int32) (w5 : Int32) (w6 : Int32) (g : Sg) : Option (Int32 × Sg) :=
  (wr 100 (g 0 6) (va_up g 4 (upd (g 4) ((g 0 6)).toNatClampNeg w6)) (fun g63 => (st (va_up g63 0 (upd (g63 0) 6 ((g63 0 6) + (1 : Int32)))) (fun g64 => (rec80 w1 w5 (w6 + (1 : Int32)) g64)))))
def f11_replay_b80 (rec80 : Int32 → Int32 → Int32 → Sg → Option (Int32 × Sg)) (w1 : Int32) (w5 : Int32) (w6 : Int32) (g : Sg) : Option (Int32 × Sg) :=
  (if (100 : Int32) ≤ w6 then (some (w5, g)) else (if w1 = (5 : Int32) then ((f11_indexIn g (0 : Int32) w6).bind (fun r55 => (if 0 ≤ r55 then (f11_replay_j112 rec80 w1 w5 w6 g) else ((f11_indexIn g (1 : Int32) w6).bind (fun r59 => (if r59 < 0 then (rec80 w1 w5 (w6 + (1 : Int32)) g) else (f11_replay_j112 rec80 w1 w5 w6 g))))))) else ((f11_seatOf g w6).bind (fun r48 => (if r48 < 0 then (rec80 w1 w5 (w6 + (1 : Int32)) g) else (wr 100 (g 0 6) (va_up g 4 (upd (g 4) ((g 0 6)).toNatClampNeg w6)) (fun g52 => (st (va_up g52 0 (upd (g52 0) 6 ((g52 0 6) + (1 : Int32)))) (fun g53 => (rec80 w1 w5 (w6 + (1 : Int32)) g53))))))))))
def f11_replay_l80 : Nat → Int32 → Int32 → Int32 → Sg → Option (Int32 × Sg)
  | 0 => fun _ _ _ _ => none
  | k + 1 => f11_replay_b80 (f11_replay_l80 k)
def f11_replay (a1 : Int32) (a2 : Int32) (a3 : Int32) (a4 : Int32) (g : Sg) : Option (Int32 × Sg) :=
  ((f11_in a1 (0 : Int32) (5 : Int32)).bind (fun r2 => (if r2 = 0 then (some ((-2 : Int32), g)) else ((f11_in a2 (1 : Int32) (30 : Int32)).bind (fun r6 => (if r6 = 0 then (some ((-2 : Int32), g)) else (if a3 < 0 then (some ((-2 : Int32), g)) else (if a4 < a3 then (some ((-2 : Int32), g)) else (rd 1805 (g 1) (1404 : Int32) (fun v12 => (if a4 ≤ v12 then (if a1 = (5 : Int32) then (b2 (f11_balanced a2 a3 a4 g) (fun r42 g41 => (st (va_up g41 0 (upd (g41 0) 6 (0 : Int32))) (fun g44 => (f11_replay_l80 NF a1 r42 (0 : Int32) g44))))) else (b2 (f11_played a1 a2 a3 a4 g) (fun r17 g16 => (st (va_up g16 0 (upd (g16 0) 6 (0 : Int32))) (fun g19 => (f11_replay_l80 NF a1 r17 (0 : Int32) g19)))))) else (some ((-2 : Int32), g)))))))))))))
set_option maxHeartbeats 4000000 in
set_option maxRecDepth 100000 in
theorem f11_replay_ok (l : Launch) (D : va_G) (cy : Nat → ClassId) (ad : Nat → Nat → Nat → Nat) (ns : List (Nat × Nat × Nat)) (M : Me) (t i : Nat) (hI : IsModel cy ad ns t i) (g : Sg) (a1 : Int32) (a2 : Int32) (a3 : Int32) (a4 : Int32) (r : Int32) (m2 : Sg)  (hf : f11_replay a1 a2 a3 a4 g = some (r, m2)) : Ci l yX11_replay (.code yX11_replay cX11_replay 8 (some .int) :: tk_tb) { frames := 4, cells := 0, slots := 0, locals := 105 } D cy ad ns [.ref (ad t i 0), .int a1, .int a2, .int a3, .int a4] (uI M t i g) r (uI M t i m2) := by
  refine Ci.of (by decide) (Nat.le_of_ble_eq_true rfl) ?_
  intro p e s m below meth c ls hE hW hl
  obtain ⟨hx, hb, hr, hml, hown, hts, hlk, hK⟩ := hE
  have hA : ∀ q : Nat, s.heap.size ≤ q → Aw ad ns s.heap.size q := fun q h => Or.inr h
  have hl : lv_has ls 8 [(0, .ref (ad t i 0)), (1, .int a1), (2, .int a2), (3, .int a3), (4, .int a4)] := hl
  unfold f11_replay at hf
  refine lv_iload_n hx hb dX11_replay_0 rfl (lv_at hl 1 rfl) ?_
  refine lv_iconst (v := 0) hx hb dX11_replay_1 (by decide) ?_
  refine lv_iconst (v := 5) hx hb dX11_replay_2 (by decide) ?_
  obtain ⟨r2, hc1, hf⟩ := bd_some hf
  have hC3 := f11_in_ok l D cy ad ns (uI M t i g) a1 (0 : Int32) (5 : Int32) r2 hc1
  refine x_si (n := 3) (As := [.int a1, .int (0 : Int32), .int (5 : Int32)]) (rest := []) hx hb hml hts hown hK hW hA hC3 t_797 t_798 t_14 t_799 rfl (by decide +kernel) rfl rfl ⟨Nat.le_of_ble_eq_true rfl, Nat.le_of_ble_eq_true rfl⟩ hl.1 rfl (lv_room (Nat.le_of_ble_eq_true rfl)) dX11_replay_3 ⟨(Nat.le_of_ble_eq_true rfl), (Nat.le_of_ble_eq_true rfl)⟩ (fun H locs hW => ?_)
  refine lv_if_eq (tgt := 42) hx hb dX11_replay_6 (by decide) (fun c4 => ?_) (fun c4 => ?_)
  · replace hf := (if_pos c4).symm.trans hf
    refine lv_bipush (v := -2) hx hb dX11_replay_42 (by decide) ?_
    exact x_iret hx hb hr hlk hK hW (congrArg Prod.fst (Option.some.inj hf)) (congrArg (fun q => (uI M t i (Prod.snd q))) (Option.some.inj hf)) dX11_replay_44
  · replace hf := (if_neg c4).symm.trans hf
    refine lv_iload_n hx hb dX11_replay_9 rfl (lv_at hl 2 rfl) ?_
    refine lv_iconst (v := 1) hx hb dX11_replay_10 (by decide) ?_
    refine lv_bipush (v := 30) hx hb dX11_replay_11 (by decide) ?_
    obtain ⟨r6, hc5, hf⟩ := bd_some hf
    have hC7 := f11_in_ok l D cy ad ns (uI M t i g) a2 (1 : Int32) (30 : Int32) r6 hc5
    refine x_si (n := 3) (As := [.int a2, .int (1 : Int32), .int (30 : Int32)]) (rest := []) hx hb hml hts hown hK hW hA hC7 t_797 t_798 t_14 t_799 rfl (by decide +kernel) rfl rfl ⟨Nat.le_of_ble_eq_true rfl, Nat.le_of_ble_eq_true rfl⟩ hl.1 rfl (lv_room (Nat.le_of_ble_eq_true rfl)) dX11_replay_13 ⟨(Nat.le_of_ble_eq_true rfl), (Nat.le_of_ble_eq_true rfl)⟩ (fun H locs hW => ?_)
    refine lv_if_eq (tgt := 42) hx hb dX11_replay_16 (by decide) (fun c8 => ?_) (fun c8 => ?_)
    · replace hf := (if_pos c8).symm.trans hf
      refine lv_bipush (v := -2) hx hb dX11_replay_42 (by decide) ?_
      exact x_iret hx hb hr hlk hK hW (congrArg Prod.fst (Option.some.inj hf)) (congrArg (fun q => (uI M t i (Prod.snd q))) (Option.some.inj hf)) dX11_replay_44
    · replace hf := (if_neg c8).symm.trans hf
      refine lv_iload_n hx hb dX11_replay_19 rfl (lv_at hl 3 rfl) ?_
      refine lv_if_lt (tgt := 42) hx hb dX11_replay_20 (by decide) (fun c9 => ?_) (fun c9 => ?_)
      · replace hf := (if_pos c9).symm.trans hf
        refine lv_bipush (v := -2) hx hb dX11_replay_42 (by decide) ?_
        exact x_iret hx hb hr hlk hK hW (congrArg Prod.fst (Option.some.inj hf)) (congrArg (fun q => (uI M t i (Prod.snd q))) (Option.some.inj hf)) dX11_replay_44
      · replace hf := (if_neg c9).symm.trans hf
        refine lv_iload hx hb dX11_replay_23 (lv_at hl 4 rfl) ?_
        refine lv_iload_n hx hb dX11_replay_25 rfl (lv_at hl 3 rfl) ?_
        refine lv_icmp_lt (tgt := 42) hx hb dX11_replay_26 (by decide) (fun c10 => ?_) (fun c10 => ?_)
        · replace hf := (if_pos c10).symm.trans hf
          refine lv_bipush (v := -2) hx hb dX11_replay_42 (by decide) ?_
          exact x_iret hx hb hr hlk hK hW (congrArg Prod.fst (Option.some.inj hf)) (congrArg (fun q => (uI M t i (Prod.snd q))) (Option.some.inj hf)) dX11_replay_44
        · replace hf := (if_neg c10).symm.trans hf
          refine lv_iload hx hb dX11_replay_29 (lv_at hl 4 rfl) ?_
          refine lv_aload_n hx hb dX11_replay_31 rfl (lv_at hl 0 rfl) ?_
          refine x_get hx hb hts hown hK hW (hI.2 0 (by decide)) uI_o (hI.1 0 _) rfl inX11 2 (by decide) t_742 rfl dX11_replay_32 ?_
          refine lv_sipush (v := 1404) hx hb dX11_replay_35 (by decide) ?_
          obtain ⟨hi11, hf⟩ := rd_some hf
          refine x_iald hx hb hK hW (hI.2 1 (by decide)) uI_o (hI.1 1 _) hi11 dX11_replay_38 ?_
          generalize g 1 ((1404 : Int32)).toNatClampNeg = v12 at hf ⊢
          refine lv_icmp_le (tgt := 45) hx hb dX11_replay_39 (by decide) (fun c13 => ?_) (fun c13 => ?_)
          · replace hf := (if_pos c13).symm.trans hf
            refine lv_iload_n hx hb dX11_replay_45 rfl (lv_at hl 1 rfl) ?_
            refine lv_iconst (v := 5) hx hb dX11_replay_46 (by decide) ?_
            refine lv_icmp_ne (tgt := 61) hx hb dX11_replay_47 (by decide) (fun c14 => ?_) (fun c14 => ?_)
            · replace hf := (if_neg c14).symm.trans hf
              refine lv_aload_n hx hb dX11_replay_61 rfl (lv_at hl 0 rfl) ?_
              refine lv_iload_n hx hb dX11_replay_62 rfl (lv_at hl 1 rfl) ?_
              refine lv_iload_n hx hb dX11_replay_63 rfl (lv_at hl 2 rfl) ?_
              refine lv_iload_n hx hb dX11_replay_64 rfl (lv_at hl 3 rfl) ?_
              refine lv_iload hx hb dX11_replay_65 (lv_at hl 4 rfl) ?_
              obtain ⟨r17, g16, hc15, hf⟩ := b2_some hf
              have hC18 := f11_played_ok l D cy ad ns M t i hI g a1 a2 a3 a4 r17 g16 hc15
              refine x_vi (n := 4) (As := [.int a1, .int a2, .int a3, .int a4]) (rest := []) hx hb hml hts hown hK hW hA hC18 (hI.2 0 (by decide)) uI_o (hI.1 0 _) rfl rfl t_967 t_969 p_51 t_14 t_970 rfl (by decide +kernel) rfl rfl ⟨Nat.le_of_ble_eq_true rfl, Nat.le_of_ble_eq_true rfl⟩ hl.1 rfl (lv_room (Nat.le_of_ble_eq_true rfl)) dX11_replay_67 ⟨(Nat.le_of_ble_eq_true rfl), (Nat.le_of_ble_eq_true rfl)⟩ (fun H locs hW => ?_)
              refine lv_istore (lv' := [(5, .int r17), (0, .ref (ad t i 0)), (1, .int a1), (2, .int a2), (3, .int a3), (4, .int a4)]) hx hb dX11_replay_70 hl (by decide) rfl (fun ls hl => ?_)
              refine lv_aload_n hx hb dX11_replay_72 rfl (lv_at hl 1 rfl) ?_
              refine lv_iconst (v := 0) hx hb dX11_replay_73 (by decide) ?_
              replace hf := st_some hf
              refine x_put hx hb hts hown hK hW (hI.2 0 (by decide)) uI_o (hI.1 0 _) rfl inX11 tyX11 tyX11_ok nmX11 6 (by decide) t_746 rfl rfl (Nat.le_of_ble_eq_true rfl) (hI.1 0 _) uC_leaf dX11_replay_74 (fun H locs hW => ?_)
              generalize (va_up g16 0 (upd (g16 0) 6 (0 : Int32))) = g19 at hf hW
              refine lv_iconst (v := 0) hx hb dX11_replay_77 (by decide) ?_
              refine lv_istore (lv' := [(6, .int (0 : Int32)), (5, .int r17), (0, .ref (ad t i 0)), (1, .int a1), (2, .int a2), (3, .int a3), (4, .int a4)]) hx hb dX11_replay_78 hl (by decide) rfl (fun ls hl => ?_)
              have L80 : ∀ (k : Nat) (w1 : Int32) (w5 : Int32) (w6 : Int32) (g : Sg) (H : Heap) (locs : List Loc) (ls : Array Slot), f11_replay_l80 k w1 w5 w6 g = some (r, m2) → Wl D cy ad ns (Aw ad ns s.heap.size) s.heap (uI M t i g) H locs → lv_has ls 8 [(0, .ref (ad t i 0)), (1, .int w1), (5, .int w5), (6, .int w6)] → W p l e { frames := 4, cells := 0, slots := 0, locals := 105 } s m ([.ref (ad t i 0), .int a1, .int a2, .int a3, .int a4] : List Value).toArray below meth c H locs 0 0 (QI below D cy ad ns [.ref (ad t i 0), .int a1, .int a2, .int a3, .int a4] s r (uI M t i m2)) (F0 m 80 ls []) := by
                intro k
                induction k with
                | zero => intro w1 w5 w6 g H locs ls hf; exact absurd hf (by simp [f11_replay_l80])
                | succ k80 ih80 =>
                  intro w1 w5 w6 g H locs ls hf hW hl
                  have hf : f11_replay_b80 (f11_replay_l80 k80) w1 w5 w6 g = some (r, m2) := hf
                  unfold f11_replay_b80 at hf
                  have J112 : ∀ (w1 : Int32) (w5 : Int32) (w6 : Int32) (g : Sg) (H : Heap) (locs : List Loc) (ls : Array Slot), f11_replay_j112 (f11_replay_l80 k80) w1 w5 w6 g = some (r, m2) → Wl D cy ad ns (Aw ad ns s.heap.size) s.heap (uI M t i g) H locs → lv_has ls 8 [(0, .ref (ad t i 0)), (1, .int w1), (5, .int w5), (6, .int w6)] → W p l e { frames := 4, cells := 0, slots := 0, locals := 105 } s m ([.ref (ad t i 0), .int a1, .int a2, .int a3, .int a4] : List Value).toArray below meth c H locs 0 0 (QI below D cy ad ns [.ref (ad t i 0), .int a1, .int a2, .int a3, .int a4] s r (uI M t i m2)) (F0 m 112 ls []) := by
                    intro w1 w5 w6 g H locs ls hf hW hl
                    unfold f11_replay_j112 at hf
                    refine lv_iconst (v := 1) hx hb dX11_replay_112 (by decide) ?_
                    refine lv_goto (tgt := 134) hx hb dX11_replay_113 (by decide) ?_
                    refine lv_istore (lv' := [(7, .int (1 : Int32)), (0, .ref (ad t i 0)), (1, .int w1), (5, .int w5), (6, .int w6)]) hx hb dX11_replay_134 hl (by decide) rfl (fun ls hl => ?_)
                    refine lv_iload hx hb dX11_replay_136 (lv_at hl 0 rfl) ?_
                    refine lv_if_eq (tgt := 162) hx hb dX11_replay_138 (by decide) (fun c9 => absurd c9 (by decide)) (fun _ => ?_)
                    refine lv_aload_n hx hb dX11_replay_141 rfl (lv_at hl 1 rfl) ?_
                    refine x_get hx hb hts hown hK hW (hI.2 0 (by decide)) uI_o (hI.1 0 _) rfl inX11 5 (by decide) t_745 rfl dX11_replay_142 ?_
                    refine lv_aload_n hx hb dX11_replay_145 rfl (lv_at hl 1 rfl) ?_
                    refine x_get hx hb hts hown hK hW (hI.2 0 (by decide)) uI_o (hI.1 0 _) rfl inX11 6 (by decide) t_746 rfl dX11_replay_146 ?_
                    refine lv_iload hx hb dX11_replay_149 (lv_at hl 4 rfl) ?_
                    obtain ⟨hi37, hf⟩ := wr_some hf
                    refine x_iast hx hb hK hW (hI.2 4 (by decide)) uI_o (fun _ => (hI.1 4 _)) hi37 uC_leaf dX11_replay_151 (fun H locs hW => ?_)
                    generalize (va_up g 4 (upd (g 4) ((g 0 6)).toNatClampNeg w6)) = g38 at hf hW
                    refine lv_aload_n hx hb dX11_replay_152 rfl (lv_at hl 1 rfl) ?_
                    refine lv_dup hx hb dX11_replay_153 rfl ?_
                    refine x_get hx hb hts hown hK hW (hI.2 0 (by decide)) uI_o (hI.1 0 _) rfl inX11 6 (by decide) t_746 rfl dX11_replay_154 ?_
                    refine lv_iconst (v := 1) hx hb dX11_replay_157 (by decide) ?_
                    refine lv_iadd hx hb dX11_replay_158 ?_
                    replace hf := st_some hf
                    refine x_put hx hb hts hown hK hW (hI.2 0 (by decide)) uI_o (hI.1 0 _) rfl inX11 tyX11 tyX11_ok nmX11 6 (by decide) t_746 rfl rfl (Nat.le_of_ble_eq_true rfl) (hI.1 0 _) uC_leaf dX11_replay_159 (fun H locs hW => ?_)
                    generalize (va_up g38 0 (upd (g38 0) 6 ((g38 0 6) + (1 : Int32)))) = g39 at hf hW
                    refine lv_iinc (v := (w6 + (1 : Int32))) (lv' := [(6, .int (w6 + (1 : Int32))), (7, .int (1 : Int32)), (0, .ref (ad t i 0)), (1, .int w1), (5, .int w5)]) hx hb dX11_replay_162 hl (k := 4) rfl (by first | rfl | decide) (by decide) rfl (fun ls hl => ?_)
                    refine lv_goto (tgt := 80) hx hb dX11_replay_165 (by decide) ?_
                    exact ih80 _ _ _ _ _ _ _ hf hW (lv_sub hl [2, 3, 4, 0] rfl)
                  refine lv_iload hx hb dX11_replay_80 (lv_at hl 3 rfl) ?_
                  refine lv_bipush (v := 100) hx hb dX11_replay_82 (by decide) ?_
                  refine lv_icmp_ge (tgt := 168) hx hb dX11_replay_84 (by decide) (fun c20 => ?_) (fun c20 => ?_)
                  · replace hf := (if_pos c20).symm.trans hf
                    refine lv_iload hx hb dX11_replay_168 (lv_at hl 2 rfl) ?_
                    exact x_iret hx hb hr hlk hK hW (congrArg Prod.fst (Option.some.inj hf)) (congrArg (fun q => (uI M t i (Prod.snd q))) (Option.some.inj hf)) dX11_replay_170
                  · replace hf := (if_neg c20).symm.trans hf
                    refine lv_iload_n hx hb dX11_replay_87 rfl (lv_at hl 1 rfl) ?_
                    refine lv_iconst (v := 5) hx hb dX11_replay_88 (by decide) ?_
                    refine lv_icmp_ne (tgt := 120) hx hb dX11_replay_89 (by decide) (fun c21 => ?_) (fun c21 => ?_)
                    · replace hf := (if_neg c21).symm.trans hf
                      refine lv_aload_n hx hb dX11_replay_120 rfl (lv_at hl 0 rfl) ?_
                      refine lv_iload hx hb dX11_replay_121 (lv_at hl 3 rfl) ?_
                      obtain ⟨r23, hc22, hf⟩ := bd_some hf
                      have hC24 := f11_seatOf_ok l D cy ad ns M t i hI g w6 r23 hc22
                      refine x_vi (n := 1) (As := [.int w6]) (rest := []) hx hb hml hts hown hK hW hA hC24 (hI.2 0 (by decide)) uI_o (hI.1 0 _) rfl rfl t_971 t_973 p_52 t_14 t_974 rfl (by decide +kernel) rfl rfl ⟨Nat.le_of_ble_eq_true rfl, Nat.le_of_ble_eq_true rfl⟩ hl.1 rfl (lv_room (Nat.le_of_ble_eq_true rfl)) dX11_replay_123 ⟨(Nat.le_of_ble_eq_true rfl), (Nat.le_of_ble_eq_true rfl)⟩ (fun H locs hW => ?_)
                      refine lv_if_lt (tgt := 133) hx hb dX11_replay_126 (by decide) (fun c25 => ?_) (fun c25 => ?_)
                      · replace hf := (if_pos c25).symm.trans hf
                        refine lv_iconst (v := 0) hx hb dX11_replay_133 (by decide) ?_
                        refine lv_istore (lv' := [(7, .int (0 : Int32)), (0, .ref (ad t i 0)), (1, .int w1), (5, .int w5), (6, .int w6)]) hx hb dX11_replay_134 hl (by decide) rfl (fun ls hl => ?_)
                        refine lv_iload hx hb dX11_replay_136 (lv_at hl 0 rfl) ?_
                        refine lv_if_eq (tgt := 162) hx hb dX11_replay_138 (by decide) (fun _ => ?_) (fun c9 => absurd (by decide) c9)
                        refine lv_iinc (v := (w6 + (1 : Int32))) (lv' := [(6, .int (w6 + (1 : Int32))), (7, .int (0 : Int32)), (0, .ref (ad t i 0)), (1, .int w1), (5, .int w5)]) hx hb dX11_replay_162 hl (k := 4) rfl (by first | rfl | decide) (by decide) rfl (fun ls hl => ?_)
                        refine lv_goto (tgt := 80) hx hb dX11_replay_165 (by decide) ?_
                        exact ih80 _ _ _ _ _ _ _ hf hW (lv_sub hl [2, 3, 4, 0] rfl)
                      · replace hf := (if_neg c25).symm.trans hf
                        refine lv_iconst (v := 1) hx hb dX11_replay_129 (by decide) ?_
                        refine lv_goto (tgt := 134) hx hb dX11_replay_130 (by decide) ?_
                        refine lv_istore (lv' := [(7, .int (1 : Int32)), (0, .ref (ad t i 0)), (1, .int w1), (5, .int w5), (6, .int w6)]) hx hb dX11_replay_134 hl (by decide) rfl (fun ls hl => ?_)
                        refine lv_iload hx hb dX11_replay_136 (lv_at hl 0 rfl) ?_
                        refine lv_if_eq (tgt := 162) hx hb dX11_replay_138 (by decide) (fun c9 => absurd c9 (by decide)) (fun _ => ?_)
                        refine lv_aload_n hx hb dX11_replay_141 rfl (lv_at hl 1 rfl) ?_
                        refine x_get hx hb hts hown hK hW (hI.2 0 (by decide)) uI_o (hI.1 0 _) rfl inX11 5 (by decide) t_745 rfl dX11_replay_142 ?_
                        refine lv_aload_n hx hb dX11_replay_145 rfl (lv_at hl 1 rfl) ?_
                        refine x_get hx hb hts hown hK hW (hI.2 0 (by decide)) uI_o (hI.1 0 _) rfl inX11 6 (by decide) t_746 rfl dX11_replay_146 ?_
                        refine lv_iload hx hb dX11_replay_149 (lv_at hl 4 rfl) ?_
                        obtain ⟨hi26, hf⟩ := wr_some hf
                        refine x_iast hx hb hK hW (hI.2 4 (by decide)) uI_o (fun _ => (hI.1 4 _)) hi26 uC_leaf dX11_replay_151 (fun H locs hW => ?_)
                        generalize (va_up g 4 (upd (g 4) ((g 0 6)).toNatClampNeg w6)) = g27 at hf hW
                        refine lv_aload_n hx hb dX11_replay_152 rfl (lv_at hl 1 rfl) ?_
                        refine lv_dup hx hb dX11_replay_153 rfl ?_
                        refine x_get hx hb hts hown hK hW (hI.2 0 (by decide)) uI_o (hI.1 0 _) rfl inX11 6 (by decide) t_746 rfl dX11_replay_154 ?_
                        refine lv_iconst (v := 1) hx hb dX11_replay_157 (by decide) ?_
                        refine lv_iadd hx hb dX11_replay_158 ?_
                        replace hf := st_some hf
                        refine x_put hx hb hts hown hK hW (hI.2 0 (by decide)) uI_o (hI.1 0 _) rfl inX11 tyX11 tyX11_ok nmX11 6 (by decide) t_746 rfl rfl (Nat.le_of_ble_eq_true rfl) (hI.1 0 _) uC_leaf dX11_replay_159 (fun H locs hW => ?_)
                        generalize (va_up g27 0 (upd (g27 0) 6 ((g27 0 6) + (1 : Int32)))) = g28 at hf hW
                        refine lv_iinc (v := (w6 + (1 : Int32))) (lv' := [(6, .int (w6 + (1 : Int32))), (7, .int (1 : Int32)), (0, .ref (ad t i 0)), (1, .int w1), (5, .int w5)]) hx hb dX11_replay_162 hl (k := 4) rfl (by first | rfl | decide) (by decide) rfl (fun ls hl => ?_)
                        refine lv_goto (tgt := 80) hx hb dX11_replay_165 (by decide) ?_
                        exact ih80 _ _ _ _ _ _ _ hf hW (lv_sub hl [2, 3, 4, 0] rfl)
                    · replace hf := (if_pos c21).symm.trans hf
                      refine lv_aload_n hx hb dX11_replay_92 rfl (lv_at hl 0 rfl) ?_
                      refine lv_iconst (v := 0) hx hb dX11_replay_93 (by decide) ?_
                      refine lv_iload hx hb dX11_replay_94 (lv_at hl 3 rfl) ?_
                      obtain ⟨r30, hc29, hf⟩ := bd_some hf
                      have hC31 := f11_indexIn_ok l D cy ad ns M t i hI g (0 : Int32) w6 r30 hc29
                      refine x_vi (n := 2) (As := [.int (0 : Int32), .int w6]) (rest := []) hx hb hml hts hown hK hW hA hC31 (hI.2 0 (by decide)) uI_o (hI.1 0 _) rfl rfl t_947 t_949 p_46 t_14 t_950 rfl (by decide +kernel) rfl rfl ⟨Nat.le_of_ble_eq_true rfl, Nat.le_of_ble_eq_true rfl⟩ hl.1 rfl (lv_room (Nat.le_of_ble_eq_true rfl)) dX11_replay_96 ⟨(Nat.le_of_ble_eq_true rfl), (Nat.le_of_ble_eq_true rfl)⟩ (fun H locs hW => ?_)
                      refine lv_if_ge (tgt := 112) hx hb dX11_replay_99 (by decide) (fun c32 => ?_) (fun c32 => ?_)
                      · replace hf := (if_pos c32).symm.trans hf
                        exact J112 _ _ _ _ _ _ _ hf hW (lv_sub hl [0, 1, 2, 3] rfl)
                      · replace hf := (if_neg c32).symm.trans hf
                        refine lv_aload_n hx hb dX11_replay_102 rfl (lv_at hl 0 rfl) ?_
                        refine lv_iconst (v := 1) hx hb dX11_replay_103 (by decide) ?_
                        refine lv_iload hx hb dX11_replay_104 (lv_at hl 3 rfl) ?_
                        obtain ⟨r34, hc33, hf⟩ := bd_some hf
                        have hC35 := f11_indexIn_ok l D cy ad ns M t i hI g (1 : Int32) w6 r34 hc33
                        refine x_vi (n := 2) (As := [.int (1 : Int32), .int w6]) (rest := []) hx hb hml hts hown hK hW hA hC35 (hI.2 0 (by decide)) uI_o (hI.1 0 _) rfl rfl t_947 t_949 p_46 t_14 t_950 rfl (by decide +kernel) rfl rfl ⟨Nat.le_of_ble_eq_true rfl, Nat.le_of_ble_eq_true rfl⟩ hl.1 rfl (lv_room (Nat.le_of_ble_eq_true rfl)) dX11_replay_106 ⟨(Nat.le_of_ble_eq_true rfl), (Nat.le_of_ble_eq_true rfl)⟩ (fun H locs hW => ?_)
                        refine lv_if_lt (tgt := 116) hx hb dX11_replay_109 (by decide) (fun c36 => ?_) (fun c36 => ?_)
                        · replace hf := (if_pos c36).symm.trans hf
                          refine lv_iconst (v := 0) hx hb dX11_replay_116 (by decide) ?_
                          refine lv_goto (tgt := 134) hx hb dX11_replay_117 (by decide) ?_
                          refine lv_istore (lv' := [(7, .int (0 : Int32)), (0, .ref (ad t i 0)), (1, .int w1), (5, .int w5), (6, .int w6)]) hx hb dX11_replay_134 hl (by decide) rfl (fun ls hl => ?_)
                          refine lv_iload hx hb dX11_replay_136 (lv_at hl 0 rfl) ?_
                          refine lv_if_eq (tgt := 162) hx hb dX11_replay_138 (by decide) (fun _ => ?_) (fun c9 => absurd (by decide) c9)
                          refine lv_iinc (v := (w6 + (1 : Int32))) (lv' := [(6, .int (w6 + (1 : Int32))), (7, .int (0 : Int32)), (0, .ref (ad t i 0)), (1, .int w1), (5, .int w5)]) hx hb dX11_replay_162 hl (k := 4) rfl (by first | rfl | decide) (by decide) rfl (fun ls hl => ?_)
                          refine lv_goto (tgt := 80) hx hb dX11_replay_165 (by decide) ?_
                          exact ih80 _ _ _ _ _ _ _ hf hW (lv_sub hl [2, 3, 4, 0] rfl)
                        · replace hf := (if_neg c36).symm.trans hf
                          exact J112 _ _ _ _ _ _ _ hf hW (lv_sub hl [0, 1, 2, 3] rfl)
              exact L80 NF _ _ _ _ _ _ _ hf hW (lv_sub hl [2, 3, 1, 0] rfl)
            · replace hf := (if_pos c14).symm.trans hf
              refine lv_aload_n hx hb dX11_replay_50 rfl (lv_at hl 0 rfl) ?_
              refine lv_iload_n hx hb dX11_replay_51 rfl (lv_at hl 2 rfl) ?_
              refine lv_iload_n hx hb dX11_replay_52 rfl (lv_at hl 3 rfl) ?_
              refine lv_iload hx hb dX11_replay_53 (lv_at hl 4 rfl) ?_
              obtain ⟨r42, g41, hc40, hf⟩ := b2_some hf
              have hC43 := f11_balanced_ok l D cy ad ns M t i hI g a2 a3 a4 r42 g41 hc40
              refine x_vi (n := 3) (As := [.int a2, .int a3, .int a4]) (rest := []) hx hb hml hts hown hK hW hA hC43 (hI.2 0 (by decide)) uI_o (hI.1 0 _) rfl rfl t_943 t_945 p_45 t_14 t_946 rfl (by decide +kernel) rfl rfl ⟨Nat.le_of_ble_eq_true rfl, Nat.le_of_ble_eq_true rfl⟩ hl.1 rfl (lv_room (Nat.le_of_ble_eq_true rfl)) dX11_replay_55 ⟨(Nat.le_of_ble_eq_true rfl), (Nat.le_of_ble_eq_true rfl)⟩ (fun H locs hW => ?_)
              refine lv_goto (tgt := 70) hx hb dX11_replay_58 (by decide) ?_
              refine lv_istore (lv' := [(5, .int r42), (0, .ref (ad t i 0)), (1, .int a1), (2, .int a2), (3, .int a3), (4, .int a4)]) hx hb dX11_replay_70 hl (by decide) rfl (fun ls hl => ?_)
              refine lv_aload_n hx hb dX11_replay_72 rfl (lv_at hl 1 rfl) ?_
              refine lv_iconst (v := 0) hx hb dX11_replay_73 (by decide) ?_
              replace hf := st_some hf
              refine x_put hx hb hts hown hK hW (hI.2 0 (by decide)) uI_o (hI.1 0 _) rfl inX11 tyX11 tyX11_ok nmX11 6 (by decide) t_746 rfl rfl (Nat.le_of_ble_eq_true rfl) (hI.1 0 _) uC_leaf dX11_replay_74 (fun H locs hW => ?_)
              generalize (va_up g41 0 (upd (g41 0) 6 (0 : Int32))) = g44 at hf hW
              refine lv_iconst (v := 0) hx hb dX11_replay_77 (by decide) ?_
              refine lv_istore (lv' := [(6, .int (0 : Int32)), (5, .int r42), (0, .ref (ad t i 0)), (1, .int a1), (2, .int a2), (3, .int a3), (4, .int a4)]) hx hb dX11_replay_78 hl (by decide) rfl (fun ls hl => ?_)
              have L80 : ∀ (k : Nat) (w1 : Int32) (w5 : Int32) (w6 : Int32) (g : Sg) (H : Heap) (locs : List Loc) (ls : Array Slot), f11_replay_l80 k w1 w5 w6 g = some (r, m2) → Wl D cy ad ns (Aw ad ns s.heap.size) s.heap (uI M t i g) H locs → lv_has ls 8 [(0, .ref (ad t i 0)), (1, .int w1), (5, .int w5), (6, .int w6)] → W p l e { frames := 4, cells := 0, slots := 0, locals := 105 } s m ([.ref (ad t i 0), .int a1, .int a2, .int a3, .int a4] : List Value).toArray below meth c H locs 0 0 (QI below D cy ad ns [.ref (ad t i 0), .int a1, .int a2, .int a3, .int a4] s r (uI M t i m2)) (F0 m 80 ls []) := by
                intro k
                induction k with
                | zero => intro w1 w5 w6 g H locs ls hf; exact absurd hf (by simp [f11_replay_l80])
                | succ k80 ih80 =>
                  intro w1 w5 w6 g H locs ls hf hW hl
                  have hf : f11_replay_b80 (f11_replay_l80 k80) w1 w5 w6 g = some (r, m2) := hf
                  unfold f11_replay_b80 at hf
                  have J112 : ∀ (w1 : Int32) (w5 : Int32) (w6 : Int32) (g : Sg) (H : Heap) (locs : List Loc) (ls : Array Slot), f11_replay_j112 (f11_replay_l80 k80) w1 w5 w6 g = some (r, m2) → Wl D cy ad ns (Aw ad ns s.heap.size) s.heap (uI M t i g) H locs → lv_has ls 8 [(0, .ref (ad t i 0)), (1, .int w1), (5, .int w5), (6, .int w6)] → W p l e { frames := 4, cells := 0, slots := 0, locals := 105 } s m ([.ref (ad t i 0), .int a1, .int a2, .int a3, .int a4] : List Value).toArray below meth c H locs 0 0 (QI below D cy ad ns [.ref (ad t i 0), .int a1, .int a2, .int a3, .int a4] s r (uI M t i m2)) (F0 m 112 ls []) := by
                    intro w1 w5 w6 g H locs ls hf hW hl
                    unfold f11_replay_j112 at hf
                    refine lv_iconst (v := 1) hx hb dX11_replay_112 (by decide) ?_
                    refine lv_goto (tgt := 134) hx hb dX11_replay_113 (by decide) ?_
                    refine lv_istore (lv' := [(7, .int (1 : Int32)), (0, .ref (ad t i 0)), (1, .int w1), (5, .int w5), (6, .int w6)]) hx hb dX11_replay_134 hl (by decide) rfl (fun ls hl => ?_)
                    refine lv_iload hx hb dX11_replay_136 (lv_at hl 0 rfl) ?_
                    refine lv_if_eq (tgt := 162) hx hb dX11_replay_138 (by decide) (fun c9 => absurd c9 (by decide)) (fun _ => ?_)
                    refine lv_aload_n hx hb dX11_replay_141 rfl (lv_at hl 1 rfl) ?_
                    refine x_get hx hb hts hown hK hW (hI.2 0 (by decide)) uI_o (hI.1 0 _) rfl inX11 5 (by decide) t_745 rfl dX11_replay_142 ?_
                    refine lv_aload_n hx hb dX11_replay_145 rfl (lv_at hl 1 rfl) ?_
                    refine x_get hx hb hts hown hK hW (hI.2 0 (by decide)) uI_o (hI.1 0 _) rfl inX11 6 (by decide) t_746 rfl dX11_replay_146 ?_
                    refine lv_iload hx hb dX11_replay_149 (lv_at hl 4 rfl) ?_
                    obtain ⟨hi62, hf⟩ := wr_some hf
                    refine x_iast hx hb hK hW (hI.2 4 (by decide)) uI_o (fun _ => (hI.1 4 _)) hi62 uC_leaf dX11_replay_151 (fun H locs hW => ?_)
                    generalize (va_up g 4 (upd (g 4) ((g 0 6)).toNatClampNeg w6)) = g63 at hf hW
                    refine lv_aload_n hx hb dX11_replay_152 rfl (lv_at hl 1 rfl) ?_
                    refine lv_dup hx hb dX11_replay_153 rfl ?_
                    refine x_get hx hb hts hown hK hW (hI.2 0 (by decide)) uI_o (hI.1 0 _) rfl inX11 6 (by decide) t_746 rfl dX11_replay_154 ?_
                    refine lv_iconst (v := 1) hx hb dX11_replay_157 (by decide) ?_
                    refine lv_iadd hx hb dX11_replay_158 ?_
                    replace hf := st_some hf
                    refine x_put hx hb hts hown hK hW (hI.2 0 (by decide)) uI_o (hI.1 0 _) rfl inX11 tyX11 tyX11_ok nmX11 6 (by decide) t_746 rfl rfl (Nat.le_of_ble_eq_true rfl) (hI.1 0 _) uC_leaf dX11_replay_159 (fun H locs hW => ?_)
                    generalize (va_up g63 0 (upd (g63 0) 6 ((g63 0 6) + (1 : Int32)))) = g64 at hf hW
                    refine lv_iinc (v := (w6 + (1 : Int32))) (lv' := [(6, .int (w6 + (1 : Int32))), (7, .int (1 : Int32)), (0, .ref (ad t i 0)), (1, .int w1), (5, .int w5)]) hx hb dX11_replay_162 hl (k := 4) rfl (by first | rfl | decide) (by decide) rfl (fun ls hl => ?_)
                    refine lv_goto (tgt := 80) hx hb dX11_replay_165 (by decide) ?_
                    exact ih80 _ _ _ _ _ _ _ hf hW (lv_sub hl [2, 3, 4, 0] rfl)
                  refine lv_iload hx hb dX11_replay_80 (lv_at hl 3 rfl) ?_
                  refine lv_bipush (v := 100) hx hb dX11_replay_82 (by decide) ?_
                  refine lv_icmp_ge (tgt := 168) hx hb dX11_replay_84 (by decide) (fun c45 => ?_) (fun c45 => ?_)
                  · replace hf := (if_pos c45).symm.trans hf
                    refine lv_iload hx hb dX11_replay_168 (lv_at hl 2 rfl) ?_
                    exact x_iret hx hb hr hlk hK hW (congrArg Prod.fst (Option.some.inj hf)) (congrArg (fun q => (uI M t i (Prod.snd q))) (Option.some.inj hf)) dX11_replay_170
                  · replace hf := (if_neg c45).symm.trans hf
                    refine lv_iload_n hx hb dX11_replay_87 rfl (lv_at hl 1 rfl) ?_
                    refine lv_iconst (v := 5) hx hb dX11_replay_88 (by decide) ?_
                    refine lv_icmp_ne (tgt := 120) hx hb dX11_replay_89 (by decide) (fun c46 => ?_) (fun c46 => ?_)
                    · replace hf := (if_neg c46).symm.trans hf
                      refine lv_aload_n hx hb dX11_replay_120 rfl (lv_at hl 0 rfl) ?_
                      refine lv_iload hx hb dX11_replay_121 (lv_at hl 3 rfl) ?_
                      obtain ⟨r48, hc47, hf⟩ := bd_some hf
                      have hC49 := f11_seatOf_ok l D cy ad ns M t i hI g w6 r48 hc47
                      refine x_vi (n := 1) (As := [.int w6]) (rest := []) hx hb hml hts hown hK hW hA hC49 (hI.2 0 (by decide)) uI_o (hI.1 0 _) rfl rfl t_971 t_973 p_52 t_14 t_974 rfl (by decide +kernel) rfl rfl ⟨Nat.le_of_ble_eq_true rfl, Nat.le_of_ble_eq_true rfl⟩ hl.1 rfl (lv_room (Nat.le_of_ble_eq_true rfl)) dX11_replay_123 ⟨(Nat.le_of_ble_eq_true rfl), (Nat.le_of_ble_eq_true rfl)⟩ (fun H locs hW => ?_)
                      refine lv_if_lt (tgt := 133) hx hb dX11_replay_126 (by decide) (fun c50 => ?_) (fun c50 => ?_)
                      · replace hf := (if_pos c50).symm.trans hf
                        refine lv_iconst (v := 0) hx hb dX11_replay_133 (by decide) ?_
                        refine lv_istore (lv' := [(7, .int (0 : Int32)), (0, .ref (ad t i 0)), (1, .int w1), (5, .int w5), (6, .int w6)]) hx hb dX11_replay_134 hl (by decide) rfl (fun ls hl => ?_)
                        refine lv_iload hx hb dX11_replay_136 (lv_at hl 0 rfl) ?_
                        refine lv_if_eq (tgt := 162) hx hb dX11_replay_138 (by decide) (fun _ => ?_) (fun c9 => absurd (by decide) c9)
                        refine lv_iinc (v := (w6 + (1 : Int32))) (lv' := [(6, .int (w6 + (1 : Int32))), (7, .int (0 : Int32)), (0, .ref (ad t i 0)), (1, .int w1), (5, .int w5)]) hx hb dX11_replay_162 hl (k := 4) rfl (by first | rfl | decide) (by decide) rfl (fun ls hl => ?_)
                        refine lv_goto (tgt := 80) hx hb dX11_replay_165 (by decide) ?_
                        exact ih80 _ _ _ _ _ _ _ hf hW (lv_sub hl [2, 3, 4, 0] rfl)
                      · replace hf := (if_neg c50).symm.trans hf
                        refine lv_iconst (v := 1) hx hb dX11_replay_129 (by decide) ?_
                        refine lv_goto (tgt := 134) hx hb dX11_replay_130 (by decide) ?_
                        refine lv_istore (lv' := [(7, .int (1 : Int32)), (0, .ref (ad t i 0)), (1, .int w1), (5, .int w5), (6, .int w6)]) hx hb dX11_replay_134 hl (by decide) rfl (fun ls hl => ?_)
                        refine lv_iload hx hb dX11_replay_136 (lv_at hl 0 rfl) ?_
                        refine lv_if_eq (tgt := 162) hx hb dX11_replay_138 (by decide) (fun c9 => absurd c9 (by decide)) (fun _ => ?_)
                        refine lv_aload_n hx hb dX11_replay_141 rfl (lv_at hl 1 rfl) ?_
                        refine x_get hx hb hts hown hK hW (hI.2 0 (by decide)) uI_o (hI.1 0 _) rfl inX11 5 (by decide) t_745 rfl dX11_replay_142 ?_
                        refine lv_aload_n hx hb dX11_replay_145 rfl (lv_at hl 1 rfl) ?_
                        refine x_get hx hb hts hown hK hW (hI.2 0 (by decide)) uI_o (hI.1 0 _) rfl inX11 6 (by decide) t_746 rfl dX11_replay_146 ?_
                        refine lv_iload hx hb dX11_replay_149 (lv_at hl 4 rfl) ?_
                        obtain ⟨hi51, hf⟩ := wr_some hf
                        refine x_iast hx hb hK hW (hI.2 4 (by decide)) uI_o (fun _ => (hI.1 4 _)) hi51 uC_leaf dX11_replay_151 (fun H locs hW => ?_)
                        generalize (va_up g 4 (upd (g 4) ((g 0 6)).toNatClampNeg w6)) = g52 at hf hW
                        refine lv_aload_n hx hb dX11_replay_152 rfl (lv_at hl 1 rfl) ?_
                        refine lv_dup hx hb dX11_replay_153 rfl ?_
                        refine x_get hx hb hts hown hK hW (hI.2 0 (by decide)) uI_o (hI.1 0 _) rfl inX11 6 (by decide) t_746 rfl dX11_replay_154 ?_
                        refine lv_iconst (v := 1) hx hb dX11_replay_157 (by decide) ?_
                        refine lv_iadd hx hb dX11_replay_158 ?_
                        replace hf := st_some hf
                        refine x_put hx hb hts hown hK hW (hI.2 0 (by decide)) uI_o (hI.1 0 _) rfl inX11 tyX11 tyX11_ok nmX11 6 (by decide) t_746 rfl rfl (Nat.le_of_ble_eq_true rfl) (hI.1 0 _) uC_leaf dX11_replay_159 (fun H locs hW => ?_)
                        generalize (va_up g52 0 (upd (g52 0) 6 ((g52 0 6) + (1 : Int32)))) = g53 at hf hW
                        refine lv_iinc (v := (w6 + (1 : Int32))) (lv' := [(6, .int (w6 + (1 : Int32))), (7, .int (1 : Int32)), (0, .ref (ad t i 0)), (1, .int w1), (5, .int w5)]) hx hb dX11_replay_162 hl (k := 4) rfl (by first | rfl | decide) (by decide) rfl (fun ls hl => ?_)
                        refine lv_goto (tgt := 80) hx hb dX11_replay_165 (by decide) ?_
                        exact ih80 _ _ _ _ _ _ _ hf hW (lv_sub hl [2, 3, 4, 0] rfl)
                    · replace hf := (if_pos c46).symm.trans hf
                      refine lv_aload_n hx hb dX11_replay_92 rfl (lv_at hl 0 rfl) ?_
                      refine lv_iconst (v := 0) hx hb dX11_replay_93 (by decide) ?_
                      refine lv_iload hx hb dX11_replay_94 (lv_at hl 3 rfl) ?_
                      obtain ⟨r55, hc54, hf⟩ := bd_some hf
                      have hC56 := f11_indexIn_ok l D cy ad ns M t i hI g (0 : Int32) w6 r55 hc54
                      refine x_vi (n := 2) (As := [.int (0 : Int32), .int w6]) (rest := []) hx hb hml hts hown hK hW hA hC56 (hI.2 0 (by decide)) uI_o (hI.1 0 _) rfl rfl t_947 t_949 p_46 t_14 t_950 rfl (by decide +kernel) rfl rfl ⟨Nat.le_of_ble_eq_true rfl, Nat.le_of_ble_eq_true rfl⟩ hl.1 rfl (lv_room (Nat.le_of_ble_eq_true rfl)) dX11_replay_96 ⟨(Nat.le_of_ble_eq_true rfl), (Nat.le_of_ble_eq_true rfl)⟩ (fun H locs hW => ?_)
                      refine lv_if_ge (tgt := 112) hx hb dX11_replay_99 (by decide) (fun c57 => ?_) (fun c57 => ?_)
                      · replace hf := (if_pos c57).symm.trans hf
                        exact J112 _ _ _ _ _ _ _ hf hW (lv_sub hl [0, 1, 2, 3] rfl)
                      · replace hf := (if_neg c57).symm.trans hf
                        refine lv_aload_n hx hb dX11_replay_102 rfl (lv_at hl 0 rfl) ?_
                        refine lv_iconst (v := 1) hx hb dX11_replay_103 (by decide) ?_
                        refine lv_iload hx hb dX11_replay_104 (lv_at hl 3 rfl) ?_
                        obtain ⟨r59, hc58, hf⟩ := bd_some hf
                        have hC60 := f11_indexIn_ok l D cy ad ns M t i hI g (1 : Int32) w6 r59 hc58
                        refine x_vi (n := 2) (As := [.int (1 : Int32), .int w6]) (rest := []) hx hb hml hts hown hK hW hA hC60 (hI.2 0 (by decide)) uI_o (hI.1 0 _) rfl rfl t_947 t_949 p_46 t_14 t_950 rfl (by decide +kernel) rfl rfl ⟨Nat.le_of_ble_eq_true rfl, Nat.le_of_ble_eq_true rfl⟩ hl.1 rfl (lv_room (Nat.le_of_ble_eq_true rfl)) dX11_replay_106 ⟨(Nat.le_of_ble_eq_true rfl), (Nat.le_of_ble_eq_true rfl)⟩ (fun H locs hW => ?_)
                        refine lv_if_lt (tgt := 116) hx hb dX11_replay_109 (by decide) (fun c61 => ?_) (fun c61 => ?_)
                        · replace hf := (if_pos c61).symm.trans hf
                          refine lv_iconst (v := 0) hx hb dX11_replay_116 (by decide) ?_
                          refine lv_goto (tgt := 134) hx hb dX11_replay_117 (by decide) ?_
                          refine lv_istore (lv' := [(7, .int (0 : Int32)), (0, .ref (ad t i 0)), (1, .int w1), (5, .int w5), (6, .int w6)]) hx hb dX11_replay_134 hl (by decide) rfl (fun ls hl => ?_)
                          refine lv_iload hx hb dX11_replay_136 (lv_at hl 0 rfl) ?_
                          refine lv_if_eq (tgt := 162) hx hb dX11_replay_138 (by decide) (fun _ => ?_) (fun c9 => absurd (by decide) c9)
                          refine lv_iinc (v := (w6 + (1 : Int32))) (lv' := [(6, .int (w6 + (1 : Int32))), (7, .int (0 : Int32)), (0, .ref (ad t i 0)), (1, .int w1), (5, .int w5)]) hx hb dX11_replay_162 hl (k := 4) rfl (by first | rfl | decide) (by decide) rfl (fun ls hl => ?_)
                          refine lv_goto (tgt := 80) hx hb dX11_replay_165 (by decide) ?_
                          exact ih80 _ _ _ _ _ _ _ hf hW (lv_sub hl [2, 3, 4, 0] rfl)
                        · replace hf := (if_neg c61).symm.trans hf
                          exact J112 _ _ _ _ _ _ _ hf hW (lv_sub hl [0, 1, 2, 3] rfl)
              exact L80 NF _ _ _ _ _ _ _ hf hW (lv_sub hl [2, 3, 1, 0] rfl)
          · replace hf := (if_neg c13).symm.trans hf
            refine lv_bipush (v := -2) hx hb dX11_replay_42 (by decide) ?_
            exact x_iret hx hb hr hlk hK hW (congrArg Prod.fst (Option.some.inj hf)) (congrArg (fun q => (uI M t i (Prod.snd q))) (Option.some.inj hf)) dX11_replay_44
def f11_kept (g : Sg) (a1 : Int32) : Option Int32 :=
  ((f11_in a1 (0 : Int32) ((g 0 6) - (1 : Int32))).bind (fun r2 => (if r2 = 0 then (some (-1 : Int32)) else (rd 100 (g 4) a1 (fun v6 => (some v6))))))
set_option maxHeartbeats 4000000 in
set_option maxRecDepth 100000 in
theorem f11_kept_ok (l : Launch) (D : va_G) (cy : Nat → ClassId) (ad : Nat → Nat → Nat → Nat) (ns : List (Nat × Nat × Nat)) (M : Me) (t i : Nat) (hI : IsModel cy ad ns t i) (g : Sg) (a1 : Int32) (r : Int32)  (hf : f11_kept g a1 = some r) : Ci l yX11_kept (.code yX11_kept cX11_kept 2 (some .int) :: tk_tb) { frames := 1, cells := 0, slots := 0, locals := 22 } D cy ad ns [.ref (ad t i 0), .int a1] (uI M t i g) r (uI M t i g) := by
  refine Ci.of (by decide) (Nat.le_of_ble_eq_true rfl) ?_
  intro p e s m below meth c ls hE hW hl
  obtain ⟨hx, hb, hr, hml, hown, hts, hlk, hK⟩ := hE
  have hA : ∀ q : Nat, s.heap.size ≤ q → Aw ad ns s.heap.size q := fun q h => Or.inr h
  have hl : lv_has ls 2 [(0, .ref (ad t i 0)), (1, .int a1)] := hl
  unfold f11_kept at hf
  refine lv_iload_n hx hb dX11_kept_0 rfl (lv_at hl 1 rfl) ?_
  refine lv_iconst (v := 0) hx hb dX11_kept_1 (by decide) ?_
  refine lv_aload_n hx hb dX11_kept_2 rfl (lv_at hl 0 rfl) ?_
  refine x_get hx hb hts hown hK hW (hI.2 0 (by decide)) uI_o (hI.1 0 _) rfl inX11 6 (by decide) t_746 rfl dX11_kept_3 ?_
  refine lv_iconst (v := 1) hx hb dX11_kept_6 (by decide) ?_
  refine lv_isub hx hb dX11_kept_7 ?_
  obtain ⟨r2, hc1, hf⟩ := bd_some hf
  have hC3 := f11_in_ok l D cy ad ns (uI M t i g) a1 (0 : Int32) ((g 0 6) - (1 : Int32)) r2 hc1
  refine x_si (n := 3) (As := [.int a1, .int (0 : Int32), .int ((g 0 6) - (1 : Int32))]) (rest := []) hx hb hml hts hown hK hW hA hC3 t_797 t_798 t_14 t_799 rfl (by decide +kernel) rfl rfl ⟨Nat.le_of_ble_eq_true rfl, Nat.le_of_ble_eq_true rfl⟩ hl.1 rfl (lv_room (Nat.le_of_ble_eq_true rfl)) dX11_kept_8 ⟨(Nat.le_of_ble_eq_true rfl), (Nat.le_of_ble_eq_true rfl)⟩ (fun H locs hW => ?_)
  refine lv_if_eq (tgt := 23) hx hb dX11_kept_11 (by decide) (fun c4 => ?_) (fun c4 => ?_)
  · replace hf := (if_pos c4).symm.trans hf
    refine lv_iconst (v := -1) hx hb dX11_kept_23 (by decide) ?_
    exact x_iret hx hb hr hlk hK hW (Option.some.inj hf) rfl dX11_kept_24
  · replace hf := (if_neg c4).symm.trans hf
    refine lv_aload_n hx hb dX11_kept_14 rfl (lv_at hl 0 rfl) ?_
    refine x_get hx hb hts hown hK hW (hI.2 0 (by decide)) uI_o (hI.1 0 _) rfl inX11 5 (by decide) t_745 rfl dX11_kept_15 ?_
    refine lv_iload_n hx hb dX11_kept_18 rfl (lv_at hl 1 rfl) ?_
    obtain ⟨hi5, hf⟩ := rd_some hf
    refine x_iald hx hb hK hW (hI.2 4 (by decide)) uI_o (hI.1 4 _) hi5 dX11_kept_19 ?_
    generalize g 4 (a1).toNatClampNeg = v6 at hf ⊢
    refine lv_goto (tgt := 24) hx hb dX11_kept_20 (by decide) ?_
    exact x_iret hx hb hr hlk hK hW (Option.some.inj hf) rfl dX11_kept_24
def f11_save_j45 (w1 : Int32) (g : Sg) : Option (Int32 × Sg) :=
  (wr 4 w1 (va_up g 3 (upd (g 3) (w1).toNatClampNeg (1 : Int32))) (fun g11 => (rd 1805 (g11 1) (1397 : Int32) (fun v13 => (some (v13, g11))))))
def f11_save_b14 (rec14 : Int32 → Int32 → Sg → Option (Int32 × Sg)) (w1 : Int32) (w2 : Int32) (g : Sg) : Option (Int32 × Sg) :=
  (if (1805 : Int32) ≤ w2 then (f11_save_j45 w1 g) else (rd 1805 (g 1) w2 (fun v7 => (wr 7220 (((1805 : Int32) * w1) + w2) (va_up g 2 (upd (g 2) ((((1805 : Int32) * w1) + w2)).toNatClampNeg v7)) (fun g9 => (rec14 w1 (w2 + (1 : Int32)) g9))))))
def f11_save_l14 : Nat → Int32 → Int32 → Sg → Option (Int32 × Sg)
  | 0 => fun _ _ _ => none
  | k + 1 => f11_save_b14 (f11_save_l14 k)
def f11_save (a1 : Int32) (g : Sg) : Option (Int32 × Sg) :=
  ((f11_in a1 (0 : Int32) (3 : Int32)).bind (fun r2 => (if r2 = 0 then (some ((-2 : Int32), g)) else (f11_save_l14 NF a1 (0 : Int32) g))))
set_option maxHeartbeats 4000000 in
set_option maxRecDepth 100000 in
theorem f11_save_ok (l : Launch) (D : va_G) (cy : Nat → ClassId) (ad : Nat → Nat → Nat → Nat) (ns : List (Nat × Nat × Nat)) (M : Me) (t i : Nat) (hI : IsModel cy ad ns t i) (g : Sg) (a1 : Int32) (r : Int32) (m2 : Sg)  (hf : f11_save a1 g = some (r, m2)) : Ci l yX11_save (.code yX11_save cX11_save 3 (some .int) :: tk_tb) { frames := 1, cells := 0, slots := 0, locals := 22 } D cy ad ns [.ref (ad t i 0), .int a1] (uI M t i g) r (uI M t i m2) := by
  refine Ci.of (by decide) (Nat.le_of_ble_eq_true rfl) ?_
  intro p e s m below meth c ls hE hW hl
  obtain ⟨hx, hb, hr, hml, hown, hts, hlk, hK⟩ := hE
  have hA : ∀ q : Nat, s.heap.size ≤ q → Aw ad ns s.heap.size q := fun q h => Or.inr h
  have hl : lv_has ls 3 [(0, .ref (ad t i 0)), (1, .int a1)] := hl
  unfold f11_save at hf
  have J45 : ∀ (w1 : Int32) (g : Sg) (H : Heap) (locs : List Loc) (ls : Array Slot), f11_save_j45 w1 g = some (r, m2) → Wl D cy ad ns (Aw ad ns s.heap.size) s.heap (uI M t i g) H locs → lv_has ls 3 [(0, .ref (ad t i 0)), (1, .int w1)] → W p l e { frames := 1, cells := 0, slots := 0, locals := 22 } s m ([.ref (ad t i 0), .int a1] : List Value).toArray below meth c H locs 0 0 (QI below D cy ad ns [.ref (ad t i 0), .int a1] s r (uI M t i m2)) (F0 m 45 ls []) := by
    intro w1 g H locs ls hf hW hl
    unfold f11_save_j45 at hf
    refine lv_aload_n hx hb dX11_save_45 rfl (lv_at hl 0 rfl) ?_
    refine x_get hx hb hts hown hK hW (hI.2 0 (by decide)) uI_o (hI.1 0 _) rfl inX11 4 (by decide) t_744 rfl dX11_save_46 ?_
    refine lv_iload_n hx hb dX11_save_49 rfl (lv_at hl 1 rfl) ?_
    refine lv_iconst (v := 1) hx hb dX11_save_50 (by decide) ?_
    obtain ⟨hi10, hf⟩ := wr_some hf
    refine x_zast hx hb hK hW (hI.2 3 (by decide)) uI_o (fun _ => (hI.1 3 _)) hi10 (by decide) uC_leaf dX11_save_51 (fun H locs hW => ?_)
    generalize (va_up g 3 (upd (g 3) (w1).toNatClampNeg (1 : Int32))) = g11 at hf hW
    refine lv_aload_n hx hb dX11_save_52 rfl (lv_at hl 0 rfl) ?_
    refine x_get hx hb hts hown hK hW (hI.2 0 (by decide)) uI_o (hI.1 0 _) rfl inX11 2 (by decide) t_742 rfl dX11_save_53 ?_
    refine lv_sipush (v := 1397) hx hb dX11_save_56 (by decide) ?_
    obtain ⟨hi12, hf⟩ := rd_some hf
    refine x_iald hx hb hK hW (hI.2 1 (by decide)) uI_o (hI.1 1 _) hi12 dX11_save_59 ?_
    generalize g11 1 ((1397 : Int32)).toNatClampNeg = v13 at hf ⊢
    exact x_iret hx hb hr hlk hK hW (congrArg Prod.fst (Option.some.inj hf)) (congrArg (fun q => (uI M t i (Prod.snd q))) (Option.some.inj hf)) dX11_save_60
  refine lv_iload_n hx hb dX11_save_0 rfl (lv_at hl 1 rfl) ?_
  refine lv_iconst (v := 0) hx hb dX11_save_1 (by decide) ?_
  refine lv_iconst (v := 3) hx hb dX11_save_2 (by decide) ?_
  obtain ⟨r2, hc1, hf⟩ := bd_some hf
  have hC3 := f11_in_ok l D cy ad ns (uI M t i g) a1 (0 : Int32) (3 : Int32) r2 hc1
  refine x_si (n := 3) (As := [.int a1, .int (0 : Int32), .int (3 : Int32)]) (rest := []) hx hb hml hts hown hK hW hA hC3 t_797 t_798 t_14 t_799 rfl (by decide +kernel) rfl rfl ⟨Nat.le_of_ble_eq_true rfl, Nat.le_of_ble_eq_true rfl⟩ hl.1 rfl (lv_room (Nat.le_of_ble_eq_true rfl)) dX11_save_3 ⟨(Nat.le_of_ble_eq_true rfl), (Nat.le_of_ble_eq_true rfl)⟩ (fun H locs hW => ?_)
  refine lv_if_ne (tgt := 12) hx hb dX11_save_6 (by decide) (fun c4 => ?_) (fun c4 => ?_)
  · replace hf := (if_neg c4).symm.trans hf
    refine lv_iconst (v := 0) hx hb dX11_save_12 (by decide) ?_
    refine lv_istore_n (lv' := [(2, .int (0 : Int32)), (0, .ref (ad t i 0)), (1, .int a1)]) hx hb dX11_save_13 rfl hl (by decide) rfl (fun ls hl => ?_)
    have L14 : ∀ (k : Nat) (w1 : Int32) (w2 : Int32) (g : Sg) (H : Heap) (locs : List Loc) (ls : Array Slot), f11_save_l14 k w1 w2 g = some (r, m2) → Wl D cy ad ns (Aw ad ns s.heap.size) s.heap (uI M t i g) H locs → lv_has ls 3 [(0, .ref (ad t i 0)), (1, .int w1), (2, .int w2)] → W p l e { frames := 1, cells := 0, slots := 0, locals := 22 } s m ([.ref (ad t i 0), .int a1] : List Value).toArray below meth c H locs 0 0 (QI below D cy ad ns [.ref (ad t i 0), .int a1] s r (uI M t i m2)) (F0 m 14 ls []) := by
      intro k
      induction k with
      | zero => intro w1 w2 g H locs ls hf; exact absurd hf (by simp [f11_save_l14])
      | succ k14 ih14 =>
        intro w1 w2 g H locs ls hf hW hl
        have hf : f11_save_b14 (f11_save_l14 k14) w1 w2 g = some (r, m2) := hf
        unfold f11_save_b14 at hf
        refine lv_iload_n hx hb dX11_save_14 rfl (lv_at hl 2 rfl) ?_
        refine lv_sipush (v := 1805) hx hb dX11_save_15 (by decide) ?_
        refine lv_icmp_ge (tgt := 45) hx hb dX11_save_18 (by decide) (fun c5 => ?_) (fun c5 => ?_)
        · replace hf := (if_pos c5).symm.trans hf
          exact J45 _ _ _ _ _ hf hW (lv_sub hl [0, 1] rfl)
        · replace hf := (if_neg c5).symm.trans hf
          refine lv_aload_n hx hb dX11_save_21 rfl (lv_at hl 0 rfl) ?_
          refine x_get hx hb hts hown hK hW (hI.2 0 (by decide)) uI_o (hI.1 0 _) rfl inX11 3 (by decide) t_743 rfl dX11_save_22 ?_
          refine lv_sipush (v := 1805) hx hb dX11_save_25 (by decide) ?_
          refine lv_iload_n hx hb dX11_save_28 rfl (lv_at hl 1 rfl) ?_
          refine lv_imul hx hb dX11_save_29 ?_
          refine lv_iload_n hx hb dX11_save_30 rfl (lv_at hl 2 rfl) ?_
          refine lv_iadd hx hb dX11_save_31 ?_
          refine lv_aload_n hx hb dX11_save_32 rfl (lv_at hl 0 rfl) ?_
          refine x_get hx hb hts hown hK hW (hI.2 0 (by decide)) uI_o (hI.1 0 _) rfl inX11 2 (by decide) t_742 rfl dX11_save_33 ?_
          refine lv_iload_n hx hb dX11_save_36 rfl (lv_at hl 2 rfl) ?_
          obtain ⟨hi6, hf⟩ := rd_some hf
          refine x_iald hx hb hK hW (hI.2 1 (by decide)) uI_o (hI.1 1 _) hi6 dX11_save_37 ?_
          generalize g 1 (w2).toNatClampNeg = v7 at hf ⊢
          obtain ⟨hi8, hf⟩ := wr_some hf
          refine x_iast hx hb hK hW (hI.2 2 (by decide)) uI_o (fun _ => (hI.1 2 _)) hi8 uC_leaf dX11_save_38 (fun H locs hW => ?_)
          generalize (va_up g 2 (upd (g 2) ((((1805 : Int32) * w1) + w2)).toNatClampNeg v7)) = g9 at hf hW
          refine lv_iinc (v := (w2 + (1 : Int32))) (lv' := [(2, .int (w2 + (1 : Int32))), (0, .ref (ad t i 0)), (1, .int w1)]) hx hb dX11_save_39 hl (k := 2) rfl (by first | rfl | decide) (by decide) rfl (fun ls hl => ?_)
          refine lv_goto (tgt := 14) hx hb dX11_save_42 (by decide) ?_
          exact ih14 _ _ _ _ _ _ hf hW (lv_sub hl [1, 2, 0] rfl)
    exact L14 NF _ _ _ _ _ _ hf hW (lv_sub hl [1, 2, 0] rfl)
  · replace hf := (if_pos c4).symm.trans hf
    refine lv_bipush (v := -2) hx hb dX11_save_9 (by decide) ?_
    exact x_iret hx hb hr hlk hK hW (congrArg Prod.fst (Option.some.inj hf)) (congrArg (fun q => (uI M t i (Prod.snd q))) (Option.some.inj hf)) dX11_save_11
def f11_load_j56 (g : Sg) : Option (Int32 × Sg) :=
  (rd 1805 (g 1) (1397 : Int32) (fun v14 => (some (v14, g))))
def f11_load_b25 (rec25 : Int32 → Int32 → Sg → Option (Int32 × Sg)) (w1 : Int32) (w2 : Int32) (g : Sg) : Option (Int32 × Sg) :=
  (if (1805 : Int32) ≤ w2 then (f11_load_j56 g) else (rd 7220 (g 2) (((1805 : Int32) * w1) + w2) (fun v10 => (wr 1805 w2 (va_up g 1 (upd (g 1) (w2).toNatClampNeg v10)) (fun g12 => (rec25 w1 (w2 + (1 : Int32)) g12))))))
def f11_load_l25 : Nat → Int32 → Int32 → Sg → Option (Int32 × Sg)
  | 0 => fun _ _ _ => none
  | k + 1 => f11_load_b25 (f11_load_l25 k)
def f11_load (a1 : Int32) (g : Sg) : Option (Int32 × Sg) :=
  ((f11_in a1 (0 : Int32) (3 : Int32)).bind (fun r2 => (if r2 = 0 then (some ((-2 : Int32), g)) else (rd 4 (g 3) a1 (fun v6 => (if v6 = 0 then (some ((-1 : Int32), g)) else (f11_load_l25 NF a1 (0 : Int32) g)))))))
set_option maxHeartbeats 4000000 in
set_option maxRecDepth 100000 in
theorem f11_load_ok (l : Launch) (D : va_G) (cy : Nat → ClassId) (ad : Nat → Nat → Nat → Nat) (ns : List (Nat × Nat × Nat)) (M : Me) (t i : Nat) (hI : IsModel cy ad ns t i) (g : Sg) (a1 : Int32) (r : Int32) (m2 : Sg)  (hf : f11_load a1 g = some (r, m2)) : Ci l yX11_load (.code yX11_load cX11_load 3 (some .int) :: tk_tb) { frames := 1, cells := 0, slots := 0, locals := 22 } D cy ad ns [.ref (ad t i 0), .int a1] (uI M t i g) r (uI M t i m2) := by
  refine Ci.of (by decide) (Nat.le_of_ble_eq_true rfl) ?_
  intro p e s m below meth c ls hE hW hl
  obtain ⟨hx, hb, hr, hml, hown, hts, hlk, hK⟩ := hE
  have hA : ∀ q : Nat, s.heap.size ≤ q → Aw ad ns s.heap.size q := fun q h => Or.inr h
  have hl : lv_has ls 3 [(0, .ref (ad t i 0)), (1, .int a1)] := hl
  unfold f11_load at hf
  have J56 : ∀ (g : Sg) (H : Heap) (locs : List Loc) (ls : Array Slot), f11_load_j56 g = some (r, m2) → Wl D cy ad ns (Aw ad ns s.heap.size) s.heap (uI M t i g) H locs → lv_has ls 3 [(0, .ref (ad t i 0))] → W p l e { frames := 1, cells := 0, slots := 0, locals := 22 } s m ([.ref (ad t i 0), .int a1] : List Value).toArray below meth c H locs 0 0 (QI below D cy ad ns [.ref (ad t i 0), .int a1] s r (uI M t i m2)) (F0 m 56 ls []) := by
    intro g H locs ls hf hW hl
    unfold f11_load_j56 at hf
    refine lv_aload_n hx hb dX11_load_56 rfl (lv_at hl 0 rfl) ?_
    refine x_get hx hb hts hown hK hW (hI.2 0 (by decide)) uI_o (hI.1 0 _) rfl inX11 2 (by decide) t_742 rfl dX11_load_57 ?_
    refine lv_sipush (v := 1397) hx hb dX11_load_60 (by decide) ?_
    obtain ⟨hi13, hf⟩ := rd_some hf
    refine x_iald hx hb hK hW (hI.2 1 (by decide)) uI_o (hI.1 1 _) hi13 dX11_load_63 ?_
    generalize g 1 ((1397 : Int32)).toNatClampNeg = v14 at hf ⊢
    exact x_iret hx hb hr hlk hK hW (congrArg Prod.fst (Option.some.inj hf)) (congrArg (fun q => (uI M t i (Prod.snd q))) (Option.some.inj hf)) dX11_load_64
  refine lv_iload_n hx hb dX11_load_0 rfl (lv_at hl 1 rfl) ?_
  refine lv_iconst (v := 0) hx hb dX11_load_1 (by decide) ?_
  refine lv_iconst (v := 3) hx hb dX11_load_2 (by decide) ?_
  obtain ⟨r2, hc1, hf⟩ := bd_some hf
  have hC3 := f11_in_ok l D cy ad ns (uI M t i g) a1 (0 : Int32) (3 : Int32) r2 hc1
  refine x_si (n := 3) (As := [.int a1, .int (0 : Int32), .int (3 : Int32)]) (rest := []) hx hb hml hts hown hK hW hA hC3 t_797 t_798 t_14 t_799 rfl (by decide +kernel) rfl rfl ⟨Nat.le_of_ble_eq_true rfl, Nat.le_of_ble_eq_true rfl⟩ hl.1 rfl (lv_room (Nat.le_of_ble_eq_true rfl)) dX11_load_3 ⟨(Nat.le_of_ble_eq_true rfl), (Nat.le_of_ble_eq_true rfl)⟩ (fun H locs hW => ?_)
  refine lv_if_ne (tgt := 12) hx hb dX11_load_6 (by decide) (fun c4 => ?_) (fun c4 => ?_)
  · replace hf := (if_neg c4).symm.trans hf
    refine lv_aload_n hx hb dX11_load_12 rfl (lv_at hl 0 rfl) ?_
    refine x_get hx hb hts hown hK hW (hI.2 0 (by decide)) uI_o (hI.1 0 _) rfl inX11 4 (by decide) t_744 rfl dX11_load_13 ?_
    refine lv_iload_n hx hb dX11_load_16 rfl (lv_at hl 1 rfl) ?_
    obtain ⟨hi5, hf⟩ := rd_some hf
    refine x_zald hx hb hK hW (hI.2 3 (by decide)) uI_o (hI.1 3 _) hi5 dX11_load_17 ?_
    generalize g 3 (a1).toNatClampNeg = v6 at hf ⊢
    refine lv_if_ne (tgt := 23) hx hb dX11_load_18 (by decide) (fun c7 => ?_) (fun c7 => ?_)
    · replace hf := (if_neg c7).symm.trans hf
      refine lv_iconst (v := 0) hx hb dX11_load_23 (by decide) ?_
      refine lv_istore_n (lv' := [(2, .int (0 : Int32)), (0, .ref (ad t i 0)), (1, .int a1)]) hx hb dX11_load_24 rfl hl (by decide) rfl (fun ls hl => ?_)
      have L25 : ∀ (k : Nat) (w1 : Int32) (w2 : Int32) (g : Sg) (H : Heap) (locs : List Loc) (ls : Array Slot), f11_load_l25 k w1 w2 g = some (r, m2) → Wl D cy ad ns (Aw ad ns s.heap.size) s.heap (uI M t i g) H locs → lv_has ls 3 [(0, .ref (ad t i 0)), (1, .int w1), (2, .int w2)] → W p l e { frames := 1, cells := 0, slots := 0, locals := 22 } s m ([.ref (ad t i 0), .int a1] : List Value).toArray below meth c H locs 0 0 (QI below D cy ad ns [.ref (ad t i 0), .int a1] s r (uI M t i m2)) (F0 m 25 ls []) := by
        intro k
        induction k with
        | zero => intro w1 w2 g H locs ls hf; exact absurd hf (by simp [f11_load_l25])
        | succ k25 ih25 =>
          intro w1 w2 g H locs ls hf hW hl
          have hf : f11_load_b25 (f11_load_l25 k25) w1 w2 g = some (r, m2) := hf
          unfold f11_load_b25 at hf
          refine lv_iload_n hx hb dX11_load_25 rfl (lv_at hl 2 rfl) ?_
          refine lv_sipush (v := 1805) hx hb dX11_load_26 (by decide) ?_
          refine lv_icmp_ge (tgt := 56) hx hb dX11_load_29 (by decide) (fun c8 => ?_) (fun c8 => ?_)
          · replace hf := (if_pos c8).symm.trans hf
            exact J56 _ _ _ _ hf hW (lv_sub hl [0] rfl)
          · replace hf := (if_neg c8).symm.trans hf
            refine lv_aload_n hx hb dX11_load_32 rfl (lv_at hl 0 rfl) ?_
            refine x_get hx hb hts hown hK hW (hI.2 0 (by decide)) uI_o (hI.1 0 _) rfl inX11 2 (by decide) t_742 rfl dX11_load_33 ?_
            refine lv_iload_n hx hb dX11_load_36 rfl (lv_at hl 2 rfl) ?_
            refine lv_aload_n hx hb dX11_load_37 rfl (lv_at hl 0 rfl) ?_
            refine x_get hx hb hts hown hK hW (hI.2 0 (by decide)) uI_o (hI.1 0 _) rfl inX11 3 (by decide) t_743 rfl dX11_load_38 ?_
            refine lv_sipush (v := 1805) hx hb dX11_load_41 (by decide) ?_
            refine lv_iload_n hx hb dX11_load_44 rfl (lv_at hl 1 rfl) ?_
            refine lv_imul hx hb dX11_load_45 ?_
            refine lv_iload_n hx hb dX11_load_46 rfl (lv_at hl 2 rfl) ?_
            refine lv_iadd hx hb dX11_load_47 ?_
            obtain ⟨hi9, hf⟩ := rd_some hf
            refine x_iald hx hb hK hW (hI.2 2 (by decide)) uI_o (hI.1 2 _) hi9 dX11_load_48 ?_
            generalize g 2 ((((1805 : Int32) * w1) + w2)).toNatClampNeg = v10 at hf ⊢
            obtain ⟨hi11, hf⟩ := wr_some hf
            refine x_iast hx hb hK hW (hI.2 1 (by decide)) uI_o (fun _ => (hI.1 1 _)) hi11 uC_leaf dX11_load_49 (fun H locs hW => ?_)
            generalize (va_up g 1 (upd (g 1) (w2).toNatClampNeg v10)) = g12 at hf hW
            refine lv_iinc (v := (w2 + (1 : Int32))) (lv' := [(2, .int (w2 + (1 : Int32))), (0, .ref (ad t i 0)), (1, .int w1)]) hx hb dX11_load_50 hl (k := 2) rfl (by first | rfl | decide) (by decide) rfl (fun ls hl => ?_)
            refine lv_goto (tgt := 25) hx hb dX11_load_53 (by decide) ?_
            exact ih25 _ _ _ _ _ _ hf hW (lv_sub hl [1, 2, 0] rfl)
      exact L25 NF _ _ _ _ _ _ hf hW (lv_sub hl [1, 2, 0] rfl)
    · replace hf := (if_pos c7).symm.trans hf
      refine lv_iconst (v := -1) hx hb dX11_load_21 (by decide) ?_
      exact x_iret hx hb hr hlk hK hW (congrArg Prod.fst (Option.some.inj hf)) (congrArg (fun q => (uI M t i (Prod.snd q))) (Option.some.inj hf)) dX11_load_22
  · replace hf := (if_pos c4).symm.trans hf
    refine lv_bipush (v := -2) hx hb dX11_load_9 (by decide) ?_
    exact x_iret hx hb hr hlk hK hW (congrArg Prod.fst (Option.some.inj hf)) (congrArg (fun q => (uI M t i (Prod.snd q))) (Option.some.inj hf)) dX11_load_11
def f11_sound_b80 (g : Sg) (rec60 : Int32 → Int32 → Option Int32) (rec71 : Int32 → Int32 → Int32 → Int32 → Option Int32) (rec80 : Int32 → Int32 → Int32 → Int32 → Int32 → Option Int32) (w1 : Int32) (w2 : Int32) (w3 : Int32) (w4 : Int32) (w5 : Int32) : Option Int32 :=
  ((f11_length g w4).bind (fun r58 => (if r58 ≤ w5 then (rec71 w1 w2 w3 (w4 + (1 : Int32))) else ((f11_keyAt g w4 w5).bind (fun r62 => (if r62 = w2 then (rec80 w1 w2 (w3 + (1 : Int32)) w4 (w5 + (1 : Int32))) else (rec80 w1 w2 (w3 + (0 : Int32)) w4 (w5 + (1 : Int32)))))))))
def f11_sound_l80 (g : Sg) (rec60 : Int32 → Int32 → Option Int32) (rec71 : Int32 → Int32 → Int32 → Int32 → Option Int32) : Nat → Int32 → Int32 → Int32 → Int32 → Int32 → Option Int32
  | 0 => fun _ _ _ _ _ => none
  | k + 1 => f11_sound_b80 g rec60 rec71 (f11_sound_l80 g rec60 rec71 k)
def f11_sound_j123 (g : Sg) (rec60 : Int32 → Int32 → Option Int32) (w1 : Int32) (w2 : Int32) (w3 : Int32) : Option Int32 :=
  (rd 1805 (g 1) ((1705 : Int32) + w2) (fun v66 => (if (15 : Int32) ≤ v66 then (if w1 = 0 then (rec60 (0 : Int32) (w2 + (1 : Int32))) else (if (2 : Int32) ≤ w3 then (rec60 (0 : Int32) (w2 + (1 : Int32))) else ((f11_estimated g w2).bind (fun r71 => (if r71 < (15 : Int32) then (rec60 (0 : Int32) (w2 + (1 : Int32))) else (rec60 (1 : Int32) (w2 + (1 : Int32)))))))) else (rd 1805 (g 1) ((1705 : Int32) + w2) (fun v75 => (if w1 = 0 then (rec60 (0 : Int32) (w2 + (1 : Int32))) else (if (2 : Int32) ≤ w3 then (rec60 (0 : Int32) (w2 + (1 : Int32))) else ((f11_estimated g w2).bind (fun r79 => (if r79 < v75 then (rec60 (0 : Int32) (w2 + (1 : Int32))) else (rec60 (1 : Int32) (w2 + (1 : Int32)))))))))))))
def f11_sound_b71 (g : Sg) (rec60 : Int32 → Int32 → Option Int32) (rec71 : Int32 → Int32 → Int32 → Int32 → Option Int32) (w1 : Int32) (w2 : Int32) (w3 : Int32) (w4 : Int32) : Option Int32 :=
  (if (3 : Int32) ≤ w4 then (f11_sound_j123 g rec60 w1 w2 w3) else (f11_sound_l80 g rec60 rec71 NF w1 w2 w3 w4 (0 : Int32)))
def f11_sound_l71 (g : Sg) (rec60 : Int32 → Int32 → Option Int32) : Nat → Int32 → Int32 → Int32 → Int32 → Option Int32
  | 0 => fun _ _ _ _ => none
  | k + 1 => f11_sound_b71 g rec60 (f11_sound_l71 g rec60 k)
def f11_sound_j230 (g : Sg) (w1 : Int32) : Option Int32 :=
  (if w1 = 0 then (some (0 : Int32)) else (some (1 : Int32)))
def f11_sound_b188 (g : Sg) (rec188 : Int32 → Int32 → Option Int32) (w1 : Int32) (w2 : Int32) : Option Int32 :=
  (if (256 : Int32) ≤ w2 then (f11_sound_j230 g w1) else (if w1 = 0 then (rec188 (0 : Int32) (w2 + (1 : Int32))) else (rd 1805 (g 1) ((606 : Int32) + w2) (fun v49 => ((f11_in v49 (0 : Int32) (15 : Int32)).bind (fun r51 => (if r51 = 0 then (rec188 (0 : Int32) (w2 + (1 : Int32))) else (rec188 (1 : Int32) (w2 + (1 : Int32))))))))))
def f11_sound_l188 (g : Sg) : Nat → Int32 → Int32 → Option Int32
  | 0 => fun _ _ => none
  | k + 1 => f11_sound_b188 g (f11_sound_l188 g k)
def f11_sound_j186 (g : Sg) (w1 : Int32) : Option Int32 :=
  (f11_sound_l188 g NF w1 (0 : Int32))
def f11_sound_b60 (g : Sg) (rec60 : Int32 → Int32 → Option Int32) (w1 : Int32) (w2 : Int32) : Option Int32 :=
  (if (100 : Int32) ≤ w2 then (f11_sound_j186 g w1) else (f11_sound_l71 g rec60 NF w1 w2 (0 : Int32) (0 : Int32)))
def f11_sound_l60 (g : Sg) : Nat → Int32 → Int32 → Option Int32
  | 0 => fun _ _ => none
  | k + 1 => f11_sound_b60 g (f11_sound_l60 g k)
def f11_sound_j56 (g : Sg) : Option Int32 :=
  (f11_sound_l60 g NF (0 : Int32) (0 : Int32))
def f11_sound (g : Sg) : Option Int32 :=
  ((f11_units g (0 : Int32)).bind (fun r2 => (rd 1805 (g 1) (1393 : Int32) (fun v5 => (if v5 < r2 then (f11_sound_j56 g) else ((f11_inMain g).bind (fun r8 => (rd 1805 (g 1) (1393 : Int32) (fun v11 => (if ((g 0 1) - v11) < r8 then (f11_sound_j56 g) else ((f11_units g (2 : Int32)).bind (fun r14 => (rd 1805 (g 1) (1394 : Int32) (fun v17 => (if v17 < r14 then (f11_sound_j56 g) else (f11_sound_l60 g NF (1 : Int32) (0 : Int32)))))))))))))))))
set_option maxHeartbeats 4000000 in
set_option maxRecDepth 100000 in
theorem f11_sound_ok (l : Launch) (D : va_G) (cy : Nat → ClassId) (ad : Nat → Nat → Nat → Nat) (ns : List (Nat × Nat × Nat)) (M : Me) (t i : Nat) (hI : IsModel cy ad ns t i) (g : Sg) (r : Int32)  (hf : f11_sound g = some r) : Ci l yX11_sound (.code yX11_sound cX11_sound 6 (some .int) :: tk_tb) { frames := 3, cells := 0, slots := 0, locals := 66 } D cy ad ns [.ref (ad t i 0)] (uI M t i g) r (uI M t i g) := by
  refine Ci.of (by decide) (Nat.le_of_ble_eq_true rfl) ?_
  intro p e s m below meth c ls hE hW hl
  obtain ⟨hx, hb, hr, hml, hown, hts, hlk, hK⟩ := hE
  have hA : ∀ q : Nat, s.heap.size ≤ q → Aw ad ns s.heap.size q := fun q h => Or.inr h
  have hl : lv_has ls 6 [(0, .ref (ad t i 0))] := hl
  unfold f11_sound at hf
  have J230 : ∀ (w1 : Int32) (H : Heap) (locs : List Loc) (ls : Array Slot), f11_sound_j230 g w1 = some r → Wl D cy ad ns (Aw ad ns s.heap.size) s.heap (uI M t i g) H locs → lv_has ls 6 [(1, .int w1)] → W p l e { frames := 3, cells := 0, slots := 0, locals := 66 } s m ([.ref (ad t i 0)] : List Value).toArray below meth c H locs 0 0 (QI below D cy ad ns [.ref (ad t i 0)] s r (uI M t i g)) (F0 m 230 ls []) := by
    intro w1 H locs ls hf hW hl
    unfold f11_sound_j230 at hf
    refine lv_iload_n hx hb dX11_sound_230 rfl (lv_at hl 0 rfl) ?_
    refine lv_if_eq (tgt := 238) hx hb dX11_sound_231 (by decide) (fun c54 => ?_) (fun c54 => ?_)
    · replace hf := (if_pos c54).symm.trans hf
      refine lv_iconst (v := 0) hx hb dX11_sound_238 (by decide) ?_
      exact x_iret hx hb hr hlk hK hW (Option.some.inj hf) rfl dX11_sound_239
    · replace hf := (if_neg c54).symm.trans hf
      refine lv_iconst (v := 1) hx hb dX11_sound_234 (by decide) ?_
      refine lv_goto (tgt := 239) hx hb dX11_sound_235 (by decide) ?_
      exact x_iret hx hb hr hlk hK hW (Option.some.inj hf) rfl dX11_sound_239
  have J186 : ∀ (w1 : Int32) (H : Heap) (locs : List Loc) (ls : Array Slot), f11_sound_j186 g w1 = some r → Wl D cy ad ns (Aw ad ns s.heap.size) s.heap (uI M t i g) H locs → lv_has ls 6 [(0, .ref (ad t i 0)), (1, .int w1)] → W p l e { frames := 3, cells := 0, slots := 0, locals := 66 } s m ([.ref (ad t i 0)] : List Value).toArray below meth c H locs 0 0 (QI below D cy ad ns [.ref (ad t i 0)] s r (uI M t i g)) (F0 m 186 ls []) := by
    intro w1 H locs ls hf hW hl
    unfold f11_sound_j186 at hf
    refine lv_iconst (v := 0) hx hb dX11_sound_186 (by decide) ?_
    refine lv_istore_n (lv' := [(2, .int (0 : Int32)), (0, .ref (ad t i 0)), (1, .int w1)]) hx hb dX11_sound_187 rfl hl (by decide) rfl (fun ls hl => ?_)
    have L188 : ∀ (k : Nat) (w1 : Int32) (w2 : Int32) (H : Heap) (locs : List Loc) (ls : Array Slot), f11_sound_l188 g k w1 w2 = some r → Wl D cy ad ns (Aw ad ns s.heap.size) s.heap (uI M t i g) H locs → lv_has ls 6 [(0, .ref (ad t i 0)), (1, .int w1), (2, .int w2)] → W p l e { frames := 3, cells := 0, slots := 0, locals := 66 } s m ([.ref (ad t i 0)] : List Value).toArray below meth c H locs 0 0 (QI below D cy ad ns [.ref (ad t i 0)] s r (uI M t i g)) (F0 m 188 ls []) := by
      intro k
      induction k with
      | zero => intro w1 w2 H locs ls hf; exact absurd hf (by simp [f11_sound_l188])
      | succ k188 ih188 =>
        intro w1 w2 H locs ls hf hW hl
        have hf : f11_sound_b188 g (f11_sound_l188 g k188) w1 w2 = some r := hf
        unfold f11_sound_b188 at hf
        refine lv_iload_n hx hb dX11_sound_188 rfl (lv_at hl 2 rfl) ?_
        refine lv_sipush (v := 256) hx hb dX11_sound_189 (by decide) ?_
        refine lv_icmp_ge (tgt := 230) hx hb dX11_sound_192 (by decide) (fun c46 => ?_) (fun c46 => ?_)
        · replace hf := (if_pos c46).symm.trans hf
          exact J230 _ _ _ _ hf hW (lv_sub hl [1] rfl)
        · replace hf := (if_neg c46).symm.trans hf
          refine lv_iload_n hx hb dX11_sound_195 rfl (lv_at hl 1 rfl) ?_
          refine lv_if_eq (tgt := 222) hx hb dX11_sound_196 (by decide) (fun c47 => ?_) (fun c47 => ?_)
          · replace hf := (if_pos c47).symm.trans hf
            refine lv_iconst (v := 0) hx hb dX11_sound_222 (by decide) ?_
            refine lv_istore_n (lv' := [(1, .int (0 : Int32)), (0, .ref (ad t i 0)), (2, .int w2)]) hx hb dX11_sound_223 rfl hl (by decide) rfl (fun ls hl => ?_)
            refine lv_iinc (v := (w2 + (1 : Int32))) (lv' := [(2, .int (w2 + (1 : Int32))), (1, .int (0 : Int32)), (0, .ref (ad t i 0))]) hx hb dX11_sound_224 hl (k := 2) rfl (by first | rfl | decide) (by decide) rfl (fun ls hl => ?_)
            refine lv_goto (tgt := 188) hx hb dX11_sound_227 (by decide) ?_
            exact ih188 _ _ _ _ _ hf hW (lv_sub hl [2, 1, 0] rfl)
          · replace hf := (if_neg c47).symm.trans hf
            refine lv_aload_n hx hb dX11_sound_199 rfl (lv_at hl 0 rfl) ?_
            refine x_get hx hb hts hown hK hW (hI.2 0 (by decide)) uI_o (hI.1 0 _) rfl inX11 2 (by decide) t_742 rfl dX11_sound_200 ?_
            refine lv_sipush (v := 606) hx hb dX11_sound_203 (by decide) ?_
            refine lv_iload_n hx hb dX11_sound_206 rfl (lv_at hl 2 rfl) ?_
            refine lv_iadd hx hb dX11_sound_207 ?_
            obtain ⟨hi48, hf⟩ := rd_some hf
            refine x_iald hx hb hK hW (hI.2 1 (by decide)) uI_o (hI.1 1 _) hi48 dX11_sound_208 ?_
            generalize g 1 (((606 : Int32) + w2)).toNatClampNeg = v49 at hf ⊢
            refine lv_iconst (v := 0) hx hb dX11_sound_209 (by decide) ?_
            refine lv_bipush (v := 15) hx hb dX11_sound_210 (by decide) ?_
            obtain ⟨r51, hc50, hf⟩ := bd_some hf
            have hC52 := f11_in_ok l D cy ad ns (uI M t i g) v49 (0 : Int32) (15 : Int32) r51 hc50
            refine x_si (n := 3) (As := [.int v49, .int (0 : Int32), .int (15 : Int32)]) (rest := []) hx hb hml hts hown hK hW hA hC52 t_797 t_798 t_14 t_799 rfl (by decide +kernel) rfl rfl ⟨Nat.le_of_ble_eq_true rfl, Nat.le_of_ble_eq_true rfl⟩ hl.1 rfl (lv_room (Nat.le_of_ble_eq_true rfl)) dX11_sound_212 ⟨(Nat.le_of_ble_eq_true rfl), (Nat.le_of_ble_eq_true rfl)⟩ (fun H locs hW => ?_)
            refine lv_if_eq (tgt := 222) hx hb dX11_sound_215 (by decide) (fun c53 => ?_) (fun c53 => ?_)
            · replace hf := (if_pos c53).symm.trans hf
              refine lv_iconst (v := 0) hx hb dX11_sound_222 (by decide) ?_
              refine lv_istore_n (lv' := [(1, .int (0 : Int32)), (0, .ref (ad t i 0)), (2, .int w2)]) hx hb dX11_sound_223 rfl hl (by decide) rfl (fun ls hl => ?_)
              refine lv_iinc (v := (w2 + (1 : Int32))) (lv' := [(2, .int (w2 + (1 : Int32))), (1, .int (0 : Int32)), (0, .ref (ad t i 0))]) hx hb dX11_sound_224 hl (k := 2) rfl (by first | rfl | decide) (by decide) rfl (fun ls hl => ?_)
              refine lv_goto (tgt := 188) hx hb dX11_sound_227 (by decide) ?_
              exact ih188 _ _ _ _ _ hf hW (lv_sub hl [2, 1, 0] rfl)
            · replace hf := (if_neg c53).symm.trans hf
              refine lv_iconst (v := 1) hx hb dX11_sound_218 (by decide) ?_
              refine lv_goto (tgt := 223) hx hb dX11_sound_219 (by decide) ?_
              refine lv_istore_n (lv' := [(1, .int (1 : Int32)), (0, .ref (ad t i 0)), (2, .int w2)]) hx hb dX11_sound_223 rfl hl (by decide) rfl (fun ls hl => ?_)
              refine lv_iinc (v := (w2 + (1 : Int32))) (lv' := [(2, .int (w2 + (1 : Int32))), (1, .int (1 : Int32)), (0, .ref (ad t i 0))]) hx hb dX11_sound_224 hl (k := 2) rfl (by first | rfl | decide) (by decide) rfl (fun ls hl => ?_)
              refine lv_goto (tgt := 188) hx hb dX11_sound_227 (by decide) ?_
              exact ih188 _ _ _ _ _ hf hW (lv_sub hl [2, 1, 0] rfl)
    exact L188 NF _ _ _ _ _ hf hW (lv_sub hl [1, 2, 0] rfl)
  have J56 : ∀ (H : Heap) (locs : List Loc) (ls : Array Slot), f11_sound_j56 g = some r → Wl D cy ad ns (Aw ad ns s.heap.size) s.heap (uI M t i g) H locs → lv_has ls 6 [(0, .ref (ad t i 0))] → W p l e { frames := 3, cells := 0, slots := 0, locals := 66 } s m ([.ref (ad t i 0)] : List Value).toArray below meth c H locs 0 0 (QI below D cy ad ns [.ref (ad t i 0)] s r (uI M t i g)) (F0 m 56 ls []) := by
    intro H locs ls hf hW hl
    unfold f11_sound_j56 at hf
    refine lv_iconst (v := 0) hx hb dX11_sound_56 (by decide) ?_
    refine lv_istore_n (lv' := [(1, .int (0 : Int32)), (0, .ref (ad t i 0))]) hx hb dX11_sound_57 rfl hl (by decide) rfl (fun ls hl => ?_)
    refine lv_iconst (v := 0) hx hb dX11_sound_58 (by decide) ?_
    refine lv_istore_n (lv' := [(2, .int (0 : Int32)), (1, .int (0 : Int32)), (0, .ref (ad t i 0))]) hx hb dX11_sound_59 rfl hl (by decide) rfl (fun ls hl => ?_)
    have L60 : ∀ (k : Nat) (w1 : Int32) (w2 : Int32) (H : Heap) (locs : List Loc) (ls : Array Slot), f11_sound_l60 g k w1 w2 = some r → Wl D cy ad ns (Aw ad ns s.heap.size) s.heap (uI M t i g) H locs → lv_has ls 6 [(0, .ref (ad t i 0)), (1, .int w1), (2, .int w2)] → W p l e { frames := 3, cells := 0, slots := 0, locals := 66 } s m ([.ref (ad t i 0)] : List Value).toArray below meth c H locs 0 0 (QI below D cy ad ns [.ref (ad t i 0)] s r (uI M t i g)) (F0 m 60 ls []) := by
      intro k
      induction k with
      | zero => intro w1 w2 H locs ls hf; exact absurd hf (by simp [f11_sound_l60])
      | succ k60 ih60 =>
        intro w1 w2 H locs ls hf hW hl
        have hf : f11_sound_b60 g (f11_sound_l60 g k60) w1 w2 = some r := hf
        unfold f11_sound_b60 at hf
        have J123 : ∀ (w1 : Int32) (w2 : Int32) (w3 : Int32) (H : Heap) (locs : List Loc) (ls : Array Slot), f11_sound_j123 g (f11_sound_l60 g k60) w1 w2 w3 = some r → Wl D cy ad ns (Aw ad ns s.heap.size) s.heap (uI M t i g) H locs → lv_has ls 6 [(0, .ref (ad t i 0)), (1, .int w1), (2, .int w2), (3, .int w3)] → W p l e { frames := 3, cells := 0, slots := 0, locals := 66 } s m ([.ref (ad t i 0)] : List Value).toArray below meth c H locs 0 0 (QI below D cy ad ns [.ref (ad t i 0)] s r (uI M t i g)) (F0 m 123 ls []) := by
          intro w1 w2 w3 H locs ls hf hW hl
          unfold f11_sound_j123 at hf
          refine lv_aload_n hx hb dX11_sound_123 rfl (lv_at hl 0 rfl) ?_
          refine x_get hx hb hts hown hK hW (hI.2 0 (by decide)) uI_o (hI.1 0 _) rfl inX11 2 (by decide) t_742 rfl dX11_sound_124 ?_
          refine lv_sipush (v := 1705) hx hb dX11_sound_127 (by decide) ?_
          refine lv_iload_n hx hb dX11_sound_130 rfl (lv_at hl 2 rfl) ?_
          refine lv_iadd hx hb dX11_sound_131 ?_
          obtain ⟨hi65, hf⟩ := rd_some hf
          refine x_iald hx hb hK hW (hI.2 1 (by decide)) uI_o (hI.1 1 _) hi65 dX11_sound_132 ?_
          generalize g 1 (((1705 : Int32) + w2)).toNatClampNeg = v66 at hf ⊢
          refine lv_bipush (v := 15) hx hb dX11_sound_133 (by decide) ?_
          refine lv_icmp_ge (tgt := 151) hx hb dX11_sound_135 (by decide) (fun c67 => ?_) (fun c67 => ?_)
          · replace hf := (if_pos c67).symm.trans hf
            refine lv_bipush (v := 15) hx hb dX11_sound_151 (by decide) ?_
            refine lv_istore (lv' := [(4, .int (15 : Int32)), (0, .ref (ad t i 0)), (1, .int w1), (2, .int w2), (3, .int w3)]) hx hb dX11_sound_153 hl (by decide) rfl (fun ls hl => ?_)
            refine lv_iload_n hx hb dX11_sound_155 rfl (lv_at hl 2 rfl) ?_
            refine lv_if_eq (tgt := 178) hx hb dX11_sound_156 (by decide) (fun c68 => ?_) (fun c68 => ?_)
            · replace hf := (if_pos c68).symm.trans hf
              refine lv_iconst (v := 0) hx hb dX11_sound_178 (by decide) ?_
              refine lv_istore_n (lv' := [(1, .int (0 : Int32)), (4, .int (15 : Int32)), (0, .ref (ad t i 0)), (2, .int w2), (3, .int w3)]) hx hb dX11_sound_179 rfl hl (by decide) rfl (fun ls hl => ?_)
              refine lv_iinc (v := (w2 + (1 : Int32))) (lv' := [(2, .int (w2 + (1 : Int32))), (1, .int (0 : Int32)), (4, .int (15 : Int32)), (0, .ref (ad t i 0)), (3, .int w3)]) hx hb dX11_sound_180 hl (k := 3) rfl (by first | rfl | decide) (by decide) rfl (fun ls hl => ?_)
              refine lv_goto (tgt := 60) hx hb dX11_sound_183 (by decide) ?_
              exact ih60 _ _ _ _ _ hf hW (lv_sub hl [3, 1, 0] rfl)
            · replace hf := (if_neg c68).symm.trans hf
              refine lv_iload_n hx hb dX11_sound_159 rfl (lv_at hl 4 rfl) ?_
              refine lv_iconst (v := 2) hx hb dX11_sound_160 (by decide) ?_
              refine lv_icmp_ge (tgt := 178) hx hb dX11_sound_161 (by decide) (fun c69 => ?_) (fun c69 => ?_)
              · replace hf := (if_pos c69).symm.trans hf
                refine lv_iconst (v := 0) hx hb dX11_sound_178 (by decide) ?_
                refine lv_istore_n (lv' := [(1, .int (0 : Int32)), (4, .int (15 : Int32)), (0, .ref (ad t i 0)), (2, .int w2), (3, .int w3)]) hx hb dX11_sound_179 rfl hl (by decide) rfl (fun ls hl => ?_)
                refine lv_iinc (v := (w2 + (1 : Int32))) (lv' := [(2, .int (w2 + (1 : Int32))), (1, .int (0 : Int32)), (4, .int (15 : Int32)), (0, .ref (ad t i 0)), (3, .int w3)]) hx hb dX11_sound_180 hl (k := 3) rfl (by first | rfl | decide) (by decide) rfl (fun ls hl => ?_)
                refine lv_goto (tgt := 60) hx hb dX11_sound_183 (by decide) ?_
                exact ih60 _ _ _ _ _ hf hW (lv_sub hl [3, 1, 0] rfl)
              · replace hf := (if_neg c69).symm.trans hf
                refine lv_aload_n hx hb dX11_sound_164 rfl (lv_at hl 1 rfl) ?_
                refine lv_iload_n hx hb dX11_sound_165 rfl (lv_at hl 3 rfl) ?_
                obtain ⟨r71, hc70, hf⟩ := bd_some hf
                have hC72 := f11_estimated_ok l D cy ad ns M t i hI g w2 r71 hc70
                refine x_vi (n := 1) (As := [.int w2]) (rest := []) hx hb hml hts hown hK hW hA hC72 (hI.2 0 (by decide)) uI_o (hI.1 0 _) rfl rfl t_887 t_889 p_42 t_14 t_890 rfl (by decide +kernel) rfl rfl ⟨Nat.le_of_ble_eq_true rfl, Nat.le_of_ble_eq_true rfl⟩ hl.1 rfl (lv_room (Nat.le_of_ble_eq_true rfl)) dX11_sound_166 ⟨(Nat.le_of_ble_eq_true rfl), (Nat.le_of_ble_eq_true rfl)⟩ (fun H locs hW => ?_)
                refine lv_iload hx hb dX11_sound_169 (lv_at hl 0 rfl) ?_
                refine lv_icmp_lt (tgt := 178) hx hb dX11_sound_171 (by decide) (fun c73 => ?_) (fun c73 => ?_)
                · replace hf := (if_pos c73).symm.trans hf
                  refine lv_iconst (v := 0) hx hb dX11_sound_178 (by decide) ?_
                  refine lv_istore_n (lv' := [(1, .int (0 : Int32)), (4, .int (15 : Int32)), (0, .ref (ad t i 0)), (2, .int w2), (3, .int w3)]) hx hb dX11_sound_179 rfl hl (by decide) rfl (fun ls hl => ?_)
                  refine lv_iinc (v := (w2 + (1 : Int32))) (lv' := [(2, .int (w2 + (1 : Int32))), (1, .int (0 : Int32)), (4, .int (15 : Int32)), (0, .ref (ad t i 0)), (3, .int w3)]) hx hb dX11_sound_180 hl (k := 3) rfl (by first | rfl | decide) (by decide) rfl (fun ls hl => ?_)
                  refine lv_goto (tgt := 60) hx hb dX11_sound_183 (by decide) ?_
                  exact ih60 _ _ _ _ _ hf hW (lv_sub hl [3, 1, 0] rfl)
                · replace hf := (if_neg c73).symm.trans hf
                  refine lv_iconst (v := 1) hx hb dX11_sound_174 (by decide) ?_
                  refine lv_goto (tgt := 179) hx hb dX11_sound_175 (by decide) ?_
                  refine lv_istore_n (lv' := [(1, .int (1 : Int32)), (4, .int (15 : Int32)), (0, .ref (ad t i 0)), (2, .int w2), (3, .int w3)]) hx hb dX11_sound_179 rfl hl (by decide) rfl (fun ls hl => ?_)
                  refine lv_iinc (v := (w2 + (1 : Int32))) (lv' := [(2, .int (w2 + (1 : Int32))), (1, .int (1 : Int32)), (4, .int (15 : Int32)), (0, .ref (ad t i 0)), (3, .int w3)]) hx hb dX11_sound_180 hl (k := 3) rfl (by first | rfl | decide) (by decide) rfl (fun ls hl => ?_)
                  refine lv_goto (tgt := 60) hx hb dX11_sound_183 (by decide) ?_
                  exact ih60 _ _ _ _ _ hf hW (lv_sub hl [3, 1, 0] rfl)
          · replace hf := (if_neg c67).symm.trans hf
            refine lv_aload_n hx hb dX11_sound_138 rfl (lv_at hl 0 rfl) ?_
            refine x_get hx hb hts hown hK hW (hI.2 0 (by decide)) uI_o (hI.1 0 _) rfl inX11 2 (by decide) t_742 rfl dX11_sound_139 ?_
            refine lv_sipush (v := 1705) hx hb dX11_sound_142 (by decide) ?_
            refine lv_iload_n hx hb dX11_sound_145 rfl (lv_at hl 2 rfl) ?_
            refine lv_iadd hx hb dX11_sound_146 ?_
            obtain ⟨hi74, hf⟩ := rd_some hf
            refine x_iald hx hb hK hW (hI.2 1 (by decide)) uI_o (hI.1 1 _) hi74 dX11_sound_147 ?_
            generalize g 1 (((1705 : Int32) + w2)).toNatClampNeg = v75 at hf ⊢
            refine lv_goto (tgt := 153) hx hb dX11_sound_148 (by decide) ?_
            refine lv_istore (lv' := [(4, .int v75), (0, .ref (ad t i 0)), (1, .int w1), (2, .int w2), (3, .int w3)]) hx hb dX11_sound_153 hl (by decide) rfl (fun ls hl => ?_)
            refine lv_iload_n hx hb dX11_sound_155 rfl (lv_at hl 2 rfl) ?_
            refine lv_if_eq (tgt := 178) hx hb dX11_sound_156 (by decide) (fun c76 => ?_) (fun c76 => ?_)
            · replace hf := (if_pos c76).symm.trans hf
              refine lv_iconst (v := 0) hx hb dX11_sound_178 (by decide) ?_
              refine lv_istore_n (lv' := [(1, .int (0 : Int32)), (4, .int v75), (0, .ref (ad t i 0)), (2, .int w2), (3, .int w3)]) hx hb dX11_sound_179 rfl hl (by decide) rfl (fun ls hl => ?_)
              refine lv_iinc (v := (w2 + (1 : Int32))) (lv' := [(2, .int (w2 + (1 : Int32))), (1, .int (0 : Int32)), (4, .int v75), (0, .ref (ad t i 0)), (3, .int w3)]) hx hb dX11_sound_180 hl (k := 3) rfl (by first | rfl | decide) (by decide) rfl (fun ls hl => ?_)
              refine lv_goto (tgt := 60) hx hb dX11_sound_183 (by decide) ?_
              exact ih60 _ _ _ _ _ hf hW (lv_sub hl [3, 1, 0] rfl)
            · replace hf := (if_neg c76).symm.trans hf
              refine lv_iload_n hx hb dX11_sound_159 rfl (lv_at hl 4 rfl) ?_
              refine lv_iconst (v := 2) hx hb dX11_sound_160 (by decide) ?_
              refine lv_icmp_ge (tgt := 178) hx hb dX11_sound_161 (by decide) (fun c77 => ?_) (fun c77 => ?_)
              · replace hf := (if_pos c77).symm.trans hf
                refine lv_iconst (v := 0) hx hb dX11_sound_178 (by decide) ?_
                refine lv_istore_n (lv' := [(1, .int (0 : Int32)), (4, .int v75), (0, .ref (ad t i 0)), (2, .int w2), (3, .int w3)]) hx hb dX11_sound_179 rfl hl (by decide) rfl (fun ls hl => ?_)
                refine lv_iinc (v := (w2 + (1 : Int32))) (lv' := [(2, .int (w2 + (1 : Int32))), (1, .int (0 : Int32)), (4, .int v75), (0, .ref (ad t i 0)), (3, .int w3)]) hx hb dX11_sound_180 hl (k := 3) rfl (by first | rfl | decide) (by decide) rfl (fun ls hl => ?_)
                refine lv_goto (tgt := 60) hx hb dX11_sound_183 (by decide) ?_
                exact ih60 _ _ _ _ _ hf hW (lv_sub hl [3, 1, 0] rfl)
              · replace hf := (if_neg c77).symm.trans hf
                refine lv_aload_n hx hb dX11_sound_164 rfl (lv_at hl 1 rfl) ?_
                refine lv_iload_n hx hb dX11_sound_165 rfl (lv_at hl 3 rfl) ?_
                obtain ⟨r79, hc78, hf⟩ := bd_some hf
                have hC80 := f11_estimated_ok l D cy ad ns M t i hI g w2 r79 hc78
                refine x_vi (n := 1) (As := [.int w2]) (rest := []) hx hb hml hts hown hK hW hA hC80 (hI.2 0 (by decide)) uI_o (hI.1 0 _) rfl rfl t_887 t_889 p_42 t_14 t_890 rfl (by decide +kernel) rfl rfl ⟨Nat.le_of_ble_eq_true rfl, Nat.le_of_ble_eq_true rfl⟩ hl.1 rfl (lv_room (Nat.le_of_ble_eq_true rfl)) dX11_sound_166 ⟨(Nat.le_of_ble_eq_true rfl), (Nat.le_of_ble_eq_true rfl)⟩ (fun H locs hW => ?_)
                refine lv_iload hx hb dX11_sound_169 (lv_at hl 0 rfl) ?_
                refine lv_icmp_lt (tgt := 178) hx hb dX11_sound_171 (by decide) (fun c81 => ?_) (fun c81 => ?_)
                · replace hf := (if_pos c81).symm.trans hf
                  refine lv_iconst (v := 0) hx hb dX11_sound_178 (by decide) ?_
                  refine lv_istore_n (lv' := [(1, .int (0 : Int32)), (4, .int v75), (0, .ref (ad t i 0)), (2, .int w2), (3, .int w3)]) hx hb dX11_sound_179 rfl hl (by decide) rfl (fun ls hl => ?_)
                  refine lv_iinc (v := (w2 + (1 : Int32))) (lv' := [(2, .int (w2 + (1 : Int32))), (1, .int (0 : Int32)), (4, .int v75), (0, .ref (ad t i 0)), (3, .int w3)]) hx hb dX11_sound_180 hl (k := 3) rfl (by first | rfl | decide) (by decide) rfl (fun ls hl => ?_)
                  refine lv_goto (tgt := 60) hx hb dX11_sound_183 (by decide) ?_
                  exact ih60 _ _ _ _ _ hf hW (lv_sub hl [3, 1, 0] rfl)
                · replace hf := (if_neg c81).symm.trans hf
                  refine lv_iconst (v := 1) hx hb dX11_sound_174 (by decide) ?_
                  refine lv_goto (tgt := 179) hx hb dX11_sound_175 (by decide) ?_
                  refine lv_istore_n (lv' := [(1, .int (1 : Int32)), (4, .int v75), (0, .ref (ad t i 0)), (2, .int w2), (3, .int w3)]) hx hb dX11_sound_179 rfl hl (by decide) rfl (fun ls hl => ?_)
                  refine lv_iinc (v := (w2 + (1 : Int32))) (lv' := [(2, .int (w2 + (1 : Int32))), (1, .int (1 : Int32)), (4, .int v75), (0, .ref (ad t i 0)), (3, .int w3)]) hx hb dX11_sound_180 hl (k := 3) rfl (by first | rfl | decide) (by decide) rfl (fun ls hl => ?_)
                  refine lv_goto (tgt := 60) hx hb dX11_sound_183 (by decide) ?_
                  exact ih60 _ _ _ _ _ hf hW (lv_sub hl [3, 1, 0] rfl)
        refine lv_iload_n hx hb dX11_sound_60 rfl (lv_at hl 2 rfl) ?_
        refine lv_bipush (v := 100) hx hb dX11_sound_61 (by decide) ?_
        refine lv_icmp_ge (tgt := 186) hx hb dX11_sound_63 (by decide) (fun c55 => ?_) (fun c55 => ?_)
        · replace hf := (if_pos c55).symm.trans hf
          exact J186 _ _ _ _ hf hW (lv_sub hl [0, 1] rfl)
        · replace hf := (if_neg c55).symm.trans hf
          refine lv_iconst (v := 0) hx hb dX11_sound_66 (by decide) ?_
          refine lv_istore_n (lv' := [(3, .int (0 : Int32)), (0, .ref (ad t i 0)), (1, .int w1), (2, .int w2)]) hx hb dX11_sound_67 rfl hl (by decide) rfl (fun ls hl => ?_)
          refine lv_iconst (v := 0) hx hb dX11_sound_68 (by decide) ?_
          refine lv_istore (lv' := [(4, .int (0 : Int32)), (3, .int (0 : Int32)), (0, .ref (ad t i 0)), (1, .int w1), (2, .int w2)]) hx hb dX11_sound_69 hl (by decide) rfl (fun ls hl => ?_)
          have L71 : ∀ (k : Nat) (w1 : Int32) (w2 : Int32) (w3 : Int32) (w4 : Int32) (H : Heap) (locs : List Loc) (ls : Array Slot), f11_sound_l71 g (f11_sound_l60 g k60) k w1 w2 w3 w4 = some r → Wl D cy ad ns (Aw ad ns s.heap.size) s.heap (uI M t i g) H locs → lv_has ls 6 [(0, .ref (ad t i 0)), (1, .int w1), (2, .int w2), (3, .int w3), (4, .int w4)] → W p l e { frames := 3, cells := 0, slots := 0, locals := 66 } s m ([.ref (ad t i 0)] : List Value).toArray below meth c H locs 0 0 (QI below D cy ad ns [.ref (ad t i 0)] s r (uI M t i g)) (F0 m 71 ls []) := by
            intro k
            induction k with
            | zero => intro w1 w2 w3 w4 H locs ls hf; exact absurd hf (by simp [f11_sound_l71])
            | succ k71 ih71 =>
              intro w1 w2 w3 w4 H locs ls hf hW hl
              have hf : f11_sound_b71 g (f11_sound_l60 g k60) (f11_sound_l71 g (f11_sound_l60 g k60) k71) w1 w2 w3 w4 = some r := hf
              unfold f11_sound_b71 at hf
              refine lv_iload hx hb dX11_sound_71 (lv_at hl 4 rfl) ?_
              refine lv_iconst (v := 3) hx hb dX11_sound_73 (by decide) ?_
              refine lv_icmp_ge (tgt := 123) hx hb dX11_sound_74 (by decide) (fun c56 => ?_) (fun c56 => ?_)
              · replace hf := (if_pos c56).symm.trans hf
                exact J123 _ _ _ _ _ _ hf hW (lv_sub hl [0, 1, 2, 3] rfl)
              · replace hf := (if_neg c56).symm.trans hf
                refine lv_iconst (v := 0) hx hb dX11_sound_77 (by decide) ?_
                refine lv_istore (lv' := [(5, .int (0 : Int32)), (0, .ref (ad t i 0)), (1, .int w1), (2, .int w2), (3, .int w3), (4, .int w4)]) hx hb dX11_sound_78 hl (by decide) rfl (fun ls hl => ?_)
                have L80 : ∀ (k : Nat) (w1 : Int32) (w2 : Int32) (w3 : Int32) (w4 : Int32) (w5 : Int32) (H : Heap) (locs : List Loc) (ls : Array Slot), f11_sound_l80 g (f11_sound_l60 g k60) (f11_sound_l71 g (f11_sound_l60 g k60) k71) k w1 w2 w3 w4 w5 = some r → Wl D cy ad ns (Aw ad ns s.heap.size) s.heap (uI M t i g) H locs → lv_has ls 6 [(0, .ref (ad t i 0)), (1, .int w1), (2, .int w2), (3, .int w3), (4, .int w4), (5, .int w5)] → W p l e { frames := 3, cells := 0, slots := 0, locals := 66 } s m ([.ref (ad t i 0)] : List Value).toArray below meth c H locs 0 0 (QI below D cy ad ns [.ref (ad t i 0)] s r (uI M t i g)) (F0 m 80 ls []) := by
                  intro k
                  induction k with
                  | zero => intro w1 w2 w3 w4 w5 H locs ls hf; exact absurd hf (by simp [f11_sound_l80])
                  | succ k80 ih80 =>
                    intro w1 w2 w3 w4 w5 H locs ls hf hW hl
                    have hf : f11_sound_b80 g (f11_sound_l60 g k60) (f11_sound_l71 g (f11_sound_l60 g k60) k71) (f11_sound_l80 g (f11_sound_l60 g k60) (f11_sound_l71 g (f11_sound_l60 g k60) k71) k80) w1 w2 w3 w4 w5 = some r := hf
                    unfold f11_sound_b80 at hf
                    refine lv_iload hx hb dX11_sound_80 (lv_at hl 5 rfl) ?_
                    refine lv_aload_n hx hb dX11_sound_82 rfl (lv_at hl 0 rfl) ?_
                    refine lv_iload hx hb dX11_sound_83 (lv_at hl 4 rfl) ?_
                    obtain ⟨r58, hc57, hf⟩ := bd_some hf
                    have hC59 := f11_length_ok l D cy ad ns M t i hI g w4 r58 hc57
                    refine x_vi (n := 1) (As := [.int w4]) (rest := [.int w5]) hx hb hml hts hown hK hW hA hC59 (hI.2 0 (by decide)) uI_o (hI.1 0 _) rfl rfl t_827 t_829 p_28 t_14 t_830 rfl (by decide +kernel) rfl rfl ⟨Nat.le_of_ble_eq_true rfl, Nat.le_of_ble_eq_true rfl⟩ hl.1 rfl (lv_room (Nat.le_of_ble_eq_true rfl)) dX11_sound_85 ⟨(Nat.le_of_ble_eq_true rfl), (Nat.le_of_ble_eq_true rfl)⟩ (fun H locs hW => ?_)
                    refine lv_icmp_ge (tgt := 117) hx hb dX11_sound_88 (by decide) (fun c60 => ?_) (fun c60 => ?_)
                    · replace hf := (if_pos c60).symm.trans hf
                      refine lv_iinc (v := (w4 + (1 : Int32))) (lv' := [(4, .int (w4 + (1 : Int32))), (0, .ref (ad t i 0)), (1, .int w1), (2, .int w2), (3, .int w3), (5, .int w5)]) hx hb dX11_sound_117 hl (k := 4) rfl (by first | rfl | decide) (by decide) rfl (fun ls hl => ?_)
                      refine lv_goto (tgt := 71) hx hb dX11_sound_120 (by decide) ?_
                      exact ih71 _ _ _ _ _ _ _ hf hW (lv_sub hl [1, 2, 3, 4, 0] rfl)
                    · replace hf := (if_neg c60).symm.trans hf
                      refine lv_iload_n hx hb dX11_sound_91 rfl (lv_at hl 3 rfl) ?_
                      refine lv_aload_n hx hb dX11_sound_92 rfl (lv_at hl 0 rfl) ?_
                      refine lv_iload hx hb dX11_sound_93 (lv_at hl 4 rfl) ?_
                      refine lv_iload hx hb dX11_sound_95 (lv_at hl 5 rfl) ?_
                      obtain ⟨r62, hc61, hf⟩ := bd_some hf
                      have hC63 := f11_keyAt_ok l D cy ad ns M t i hI g w4 w5 r62 hc61
                      refine x_vi (n := 2) (As := [.int w4, .int w5]) (rest := [.int w3]) hx hb hml hts hown hK hW hA hC63 (hI.2 0 (by decide)) uI_o (hI.1 0 _) rfl rfl t_831 t_833 p_29 t_14 t_834 rfl (by decide +kernel) rfl rfl ⟨Nat.le_of_ble_eq_true rfl, Nat.le_of_ble_eq_true rfl⟩ hl.1 rfl (lv_room (Nat.le_of_ble_eq_true rfl)) dX11_sound_97 ⟨(Nat.le_of_ble_eq_true rfl), (Nat.le_of_ble_eq_true rfl)⟩ (fun H locs hW => ?_)
                      refine lv_iload_n hx hb dX11_sound_100 rfl (lv_at hl 2 rfl) ?_
                      refine lv_icmp_ne (tgt := 108) hx hb dX11_sound_101 (by decide) (fun c64 => ?_) (fun c64 => ?_)
                      · replace hf := (if_neg c64).symm.trans hf
                        refine lv_iconst (v := 0) hx hb dX11_sound_108 (by decide) ?_
                        refine lv_iadd hx hb dX11_sound_109 ?_
                        refine lv_istore_n (lv' := [(3, .int (w3 + (0 : Int32))), (0, .ref (ad t i 0)), (1, .int w1), (2, .int w2), (4, .int w4), (5, .int w5)]) hx hb dX11_sound_110 rfl hl (by decide) rfl (fun ls hl => ?_)
                        refine lv_iinc (v := (w5 + (1 : Int32))) (lv' := [(5, .int (w5 + (1 : Int32))), (3, .int (w3 + (0 : Int32))), (0, .ref (ad t i 0)), (1, .int w1), (2, .int w2), (4, .int w4)]) hx hb dX11_sound_111 hl (k := 5) rfl (by first | rfl | decide) (by decide) rfl (fun ls hl => ?_)
                        refine lv_goto (tgt := 80) hx hb dX11_sound_114 (by decide) ?_
                        exact ih80 _ _ _ _ _ _ _ _ hf hW (lv_sub hl [2, 3, 4, 1, 5, 0] rfl)
                      · replace hf := (if_pos c64).symm.trans hf
                        refine lv_iconst (v := 1) hx hb dX11_sound_104 (by decide) ?_
                        refine lv_goto (tgt := 109) hx hb dX11_sound_105 (by decide) ?_
                        refine lv_iadd hx hb dX11_sound_109 ?_
                        refine lv_istore_n (lv' := [(3, .int (w3 + (1 : Int32))), (0, .ref (ad t i 0)), (1, .int w1), (2, .int w2), (4, .int w4), (5, .int w5)]) hx hb dX11_sound_110 rfl hl (by decide) rfl (fun ls hl => ?_)
                        refine lv_iinc (v := (w5 + (1 : Int32))) (lv' := [(5, .int (w5 + (1 : Int32))), (3, .int (w3 + (1 : Int32))), (0, .ref (ad t i 0)), (1, .int w1), (2, .int w2), (4, .int w4)]) hx hb dX11_sound_111 hl (k := 5) rfl (by first | rfl | decide) (by decide) rfl (fun ls hl => ?_)
                        refine lv_goto (tgt := 80) hx hb dX11_sound_114 (by decide) ?_
                        exact ih80 _ _ _ _ _ _ _ _ hf hW (lv_sub hl [2, 3, 4, 1, 5, 0] rfl)
                exact L80 NF _ _ _ _ _ _ _ _ hf hW (lv_sub hl [1, 2, 3, 4, 5, 0] rfl)
          exact L71 NF _ _ _ _ _ _ _ hf hW (lv_sub hl [2, 3, 4, 1, 0] rfl)
    exact L60 NF _ _ _ _ _ hf hW (lv_sub hl [2, 1, 0] rfl)
  refine lv_aload_n hx hb dX11_sound_0 rfl (lv_at hl 0 rfl) ?_
  refine lv_iconst (v := 0) hx hb dX11_sound_1 (by decide) ?_
  obtain ⟨r2, hc1, hf⟩ := bd_some hf
  have hC3 := f11_units_ok l D cy ad ns M t i hI g (0 : Int32) r2 hc1
  refine x_vi (n := 1) (As := [.int (0 : Int32)]) (rest := []) hx hb hml hts hown hK hW hA hC3 (hI.2 0 (by decide)) uI_o (hI.1 0 _) rfl rfl t_871 t_873 p_38 t_14 t_874 rfl (by decide +kernel) rfl rfl ⟨Nat.le_of_ble_eq_true rfl, Nat.le_of_ble_eq_true rfl⟩ hl.1 rfl (lv_room (Nat.le_of_ble_eq_true rfl)) dX11_sound_2 ⟨(Nat.le_of_ble_eq_true rfl), (Nat.le_of_ble_eq_true rfl)⟩ (fun H locs hW => ?_)
  refine lv_aload_n hx hb dX11_sound_5 rfl (lv_at hl 0 rfl) ?_
  refine x_get hx hb hts hown hK hW (hI.2 0 (by decide)) uI_o (hI.1 0 _) rfl inX11 2 (by decide) t_742 rfl dX11_sound_6 ?_
  refine lv_sipush (v := 1393) hx hb dX11_sound_9 (by decide) ?_
  obtain ⟨hi4, hf⟩ := rd_some hf
  refine x_iald hx hb hK hW (hI.2 1 (by decide)) uI_o (hI.1 1 _) hi4 dX11_sound_12 ?_
  generalize g 1 ((1393 : Int32)).toNatClampNeg = v5 at hf ⊢
  refine lv_icmp_gt (tgt := 56) hx hb dX11_sound_13 (by decide) (fun c6 => ?_) (fun c6 => ?_)
  · replace hf := (if_pos c6).symm.trans hf
    exact J56 _ _ _ hf hW (lv_sub hl [0] rfl)
  · replace hf := (if_neg c6).symm.trans hf
    refine lv_aload_n hx hb dX11_sound_16 rfl (lv_at hl 0 rfl) ?_
    obtain ⟨r8, hc7, hf⟩ := bd_some hf
    have hC9 := f11_inMain_ok l D cy ad ns M t i hI g r8 hc7
    refine x_vi (n := 0) (As := []) (rest := []) hx hb hml hts hown hK hW hA hC9 (hI.2 0 (by decide)) uI_o (hI.1 0 _) rfl rfl t_879 t_881 p_40 t_14 t_882 rfl (by decide +kernel) rfl rfl ⟨Nat.le_of_ble_eq_true rfl, Nat.le_of_ble_eq_true rfl⟩ hl.1 rfl (lv_room (Nat.le_of_ble_eq_true rfl)) dX11_sound_17 ⟨(Nat.le_of_ble_eq_true rfl), (Nat.le_of_ble_eq_true rfl)⟩ (fun H locs hW => ?_)
    refine lv_aload_n hx hb dX11_sound_20 rfl (lv_at hl 0 rfl) ?_
    refine x_get hx hb hts hown hK hW (hI.2 0 (by decide)) uI_o (hI.1 0 _) rfl inX11 1 (by decide) t_741 rfl dX11_sound_21 ?_
    refine lv_aload_n hx hb dX11_sound_24 rfl (lv_at hl 0 rfl) ?_
    refine x_get hx hb hts hown hK hW (hI.2 0 (by decide)) uI_o (hI.1 0 _) rfl inX11 2 (by decide) t_742 rfl dX11_sound_25 ?_
    refine lv_sipush (v := 1393) hx hb dX11_sound_28 (by decide) ?_
    obtain ⟨hi10, hf⟩ := rd_some hf
    refine x_iald hx hb hK hW (hI.2 1 (by decide)) uI_o (hI.1 1 _) hi10 dX11_sound_31 ?_
    generalize g 1 ((1393 : Int32)).toNatClampNeg = v11 at hf ⊢
    refine lv_isub hx hb dX11_sound_32 ?_
    refine lv_icmp_gt (tgt := 56) hx hb dX11_sound_33 (by decide) (fun c12 => ?_) (fun c12 => ?_)
    · replace hf := (if_pos c12).symm.trans hf
      exact J56 _ _ _ hf hW (lv_sub hl [0] rfl)
    · replace hf := (if_neg c12).symm.trans hf
      refine lv_aload_n hx hb dX11_sound_36 rfl (lv_at hl 0 rfl) ?_
      refine lv_iconst (v := 2) hx hb dX11_sound_37 (by decide) ?_
      obtain ⟨r14, hc13, hf⟩ := bd_some hf
      have hC15 := f11_units_ok l D cy ad ns M t i hI g (2 : Int32) r14 hc13
      refine x_vi (n := 1) (As := [.int (2 : Int32)]) (rest := []) hx hb hml hts hown hK hW hA hC15 (hI.2 0 (by decide)) uI_o (hI.1 0 _) rfl rfl t_871 t_873 p_38 t_14 t_874 rfl (by decide +kernel) rfl rfl ⟨Nat.le_of_ble_eq_true rfl, Nat.le_of_ble_eq_true rfl⟩ hl.1 rfl (lv_room (Nat.le_of_ble_eq_true rfl)) dX11_sound_38 ⟨(Nat.le_of_ble_eq_true rfl), (Nat.le_of_ble_eq_true rfl)⟩ (fun H locs hW => ?_)
      refine lv_aload_n hx hb dX11_sound_41 rfl (lv_at hl 0 rfl) ?_
      refine x_get hx hb hts hown hK hW (hI.2 0 (by decide)) uI_o (hI.1 0 _) rfl inX11 2 (by decide) t_742 rfl dX11_sound_42 ?_
      refine lv_sipush (v := 1394) hx hb dX11_sound_45 (by decide) ?_
      obtain ⟨hi16, hf⟩ := rd_some hf
      refine x_iald hx hb hK hW (hI.2 1 (by decide)) uI_o (hI.1 1 _) hi16 dX11_sound_48 ?_
      generalize g 1 ((1394 : Int32)).toNatClampNeg = v17 at hf ⊢
      refine lv_icmp_gt (tgt := 56) hx hb dX11_sound_49 (by decide) (fun c18 => ?_) (fun c18 => ?_)
      · replace hf := (if_pos c18).symm.trans hf
        exact J56 _ _ _ hf hW (lv_sub hl [0] rfl)
      · replace hf := (if_neg c18).symm.trans hf
        refine lv_iconst (v := 1) hx hb dX11_sound_52 (by decide) ?_
        refine lv_goto (tgt := 57) hx hb dX11_sound_53 (by decide) ?_
        refine lv_istore_n (lv' := [(1, .int (1 : Int32)), (0, .ref (ad t i 0))]) hx hb dX11_sound_57 rfl hl (by decide) rfl (fun ls hl => ?_)
        refine lv_iconst (v := 0) hx hb dX11_sound_58 (by decide) ?_
        refine lv_istore_n (lv' := [(2, .int (0 : Int32)), (1, .int (1 : Int32)), (0, .ref (ad t i 0))]) hx hb dX11_sound_59 rfl hl (by decide) rfl (fun ls hl => ?_)
        have L60 : ∀ (k : Nat) (w1 : Int32) (w2 : Int32) (H : Heap) (locs : List Loc) (ls : Array Slot), f11_sound_l60 g k w1 w2 = some r → Wl D cy ad ns (Aw ad ns s.heap.size) s.heap (uI M t i g) H locs → lv_has ls 6 [(0, .ref (ad t i 0)), (1, .int w1), (2, .int w2)] → W p l e { frames := 3, cells := 0, slots := 0, locals := 66 } s m ([.ref (ad t i 0)] : List Value).toArray below meth c H locs 0 0 (QI below D cy ad ns [.ref (ad t i 0)] s r (uI M t i g)) (F0 m 60 ls []) := by
          intro k
          induction k with
          | zero => intro w1 w2 H locs ls hf; exact absurd hf (by simp [f11_sound_l60])
          | succ k60 ih60 =>
            intro w1 w2 H locs ls hf hW hl
            have hf : f11_sound_b60 g (f11_sound_l60 g k60) w1 w2 = some r := hf
            unfold f11_sound_b60 at hf
            have J123 : ∀ (w1 : Int32) (w2 : Int32) (w3 : Int32) (H : Heap) (locs : List Loc) (ls : Array Slot), f11_sound_j123 g (f11_sound_l60 g k60) w1 w2 w3 = some r → Wl D cy ad ns (Aw ad ns s.heap.size) s.heap (uI M t i g) H locs → lv_has ls 6 [(0, .ref (ad t i 0)), (1, .int w1), (2, .int w2), (3, .int w3)] → W p l e { frames := 3, cells := 0, slots := 0, locals := 66 } s m ([.ref (ad t i 0)] : List Value).toArray below meth c H locs 0 0 (QI below D cy ad ns [.ref (ad t i 0)] s r (uI M t i g)) (F0 m 123 ls []) := by
              intro w1 w2 w3 H locs ls hf hW hl
              unfold f11_sound_j123 at hf
              refine lv_aload_n hx hb dX11_sound_123 rfl (lv_at hl 0 rfl) ?_
              refine x_get hx hb hts hown hK hW (hI.2 0 (by decide)) uI_o (hI.1 0 _) rfl inX11 2 (by decide) t_742 rfl dX11_sound_124 ?_
              refine lv_sipush (v := 1705) hx hb dX11_sound_127 (by decide) ?_
              refine lv_iload_n hx hb dX11_sound_130 rfl (lv_at hl 2 rfl) ?_
              refine lv_iadd hx hb dX11_sound_131 ?_
              obtain ⟨hi29, hf⟩ := rd_some hf
              refine x_iald hx hb hK hW (hI.2 1 (by decide)) uI_o (hI.1 1 _) hi29 dX11_sound_132 ?_
              generalize g 1 (((1705 : Int32) + w2)).toNatClampNeg = v30 at hf ⊢
              refine lv_bipush (v := 15) hx hb dX11_sound_133 (by decide) ?_
              refine lv_icmp_ge (tgt := 151) hx hb dX11_sound_135 (by decide) (fun c31 => ?_) (fun c31 => ?_)
              · replace hf := (if_pos c31).symm.trans hf
                refine lv_bipush (v := 15) hx hb dX11_sound_151 (by decide) ?_
                refine lv_istore (lv' := [(4, .int (15 : Int32)), (0, .ref (ad t i 0)), (1, .int w1), (2, .int w2), (3, .int w3)]) hx hb dX11_sound_153 hl (by decide) rfl (fun ls hl => ?_)
                refine lv_iload_n hx hb dX11_sound_155 rfl (lv_at hl 2 rfl) ?_
                refine lv_if_eq (tgt := 178) hx hb dX11_sound_156 (by decide) (fun c32 => ?_) (fun c32 => ?_)
                · replace hf := (if_pos c32).symm.trans hf
                  refine lv_iconst (v := 0) hx hb dX11_sound_178 (by decide) ?_
                  refine lv_istore_n (lv' := [(1, .int (0 : Int32)), (4, .int (15 : Int32)), (0, .ref (ad t i 0)), (2, .int w2), (3, .int w3)]) hx hb dX11_sound_179 rfl hl (by decide) rfl (fun ls hl => ?_)
                  refine lv_iinc (v := (w2 + (1 : Int32))) (lv' := [(2, .int (w2 + (1 : Int32))), (1, .int (0 : Int32)), (4, .int (15 : Int32)), (0, .ref (ad t i 0)), (3, .int w3)]) hx hb dX11_sound_180 hl (k := 3) rfl (by first | rfl | decide) (by decide) rfl (fun ls hl => ?_)
                  refine lv_goto (tgt := 60) hx hb dX11_sound_183 (by decide) ?_
                  exact ih60 _ _ _ _ _ hf hW (lv_sub hl [3, 1, 0] rfl)
                · replace hf := (if_neg c32).symm.trans hf
                  refine lv_iload_n hx hb dX11_sound_159 rfl (lv_at hl 4 rfl) ?_
                  refine lv_iconst (v := 2) hx hb dX11_sound_160 (by decide) ?_
                  refine lv_icmp_ge (tgt := 178) hx hb dX11_sound_161 (by decide) (fun c33 => ?_) (fun c33 => ?_)
                  · replace hf := (if_pos c33).symm.trans hf
                    refine lv_iconst (v := 0) hx hb dX11_sound_178 (by decide) ?_
                    refine lv_istore_n (lv' := [(1, .int (0 : Int32)), (4, .int (15 : Int32)), (0, .ref (ad t i 0)), (2, .int w2), (3, .int w3)]) hx hb dX11_sound_179 rfl hl (by decide) rfl (fun ls hl => ?_)
                    refine lv_iinc (v := (w2 + (1 : Int32))) (lv' := [(2, .int (w2 + (1 : Int32))), (1, .int (0 : Int32)), (4, .int (15 : Int32)), (0, .ref (ad t i 0)), (3, .int w3)]) hx hb dX11_sound_180 hl (k := 3) rfl (by first | rfl | decide) (by decide) rfl (fun ls hl => ?_)
                    refine lv_goto (tgt := 60) hx hb dX11_sound_183 (by decide) ?_
                    exact ih60 _ _ _ _ _ hf hW (lv_sub hl [3, 1, 0] rfl)
                  · replace hf := (if_neg c33).symm.trans hf
                    refine lv_aload_n hx hb dX11_sound_164 rfl (lv_at hl 1 rfl) ?_
                    refine lv_iload_n hx hb dX11_sound_165 rfl (lv_at hl 3 rfl) ?_
                    obtain ⟨r35, hc34, hf⟩ := bd_some hf
                    have hC36 := f11_estimated_ok l D cy ad ns M t i hI g w2 r35 hc34
                    refine x_vi (n := 1) (As := [.int w2]) (rest := []) hx hb hml hts hown hK hW hA hC36 (hI.2 0 (by decide)) uI_o (hI.1 0 _) rfl rfl t_887 t_889 p_42 t_14 t_890 rfl (by decide +kernel) rfl rfl ⟨Nat.le_of_ble_eq_true rfl, Nat.le_of_ble_eq_true rfl⟩ hl.1 rfl (lv_room (Nat.le_of_ble_eq_true rfl)) dX11_sound_166 ⟨(Nat.le_of_ble_eq_true rfl), (Nat.le_of_ble_eq_true rfl)⟩ (fun H locs hW => ?_)
                    refine lv_iload hx hb dX11_sound_169 (lv_at hl 0 rfl) ?_
                    refine lv_icmp_lt (tgt := 178) hx hb dX11_sound_171 (by decide) (fun c37 => ?_) (fun c37 => ?_)
                    · replace hf := (if_pos c37).symm.trans hf
                      refine lv_iconst (v := 0) hx hb dX11_sound_178 (by decide) ?_
                      refine lv_istore_n (lv' := [(1, .int (0 : Int32)), (4, .int (15 : Int32)), (0, .ref (ad t i 0)), (2, .int w2), (3, .int w3)]) hx hb dX11_sound_179 rfl hl (by decide) rfl (fun ls hl => ?_)
                      refine lv_iinc (v := (w2 + (1 : Int32))) (lv' := [(2, .int (w2 + (1 : Int32))), (1, .int (0 : Int32)), (4, .int (15 : Int32)), (0, .ref (ad t i 0)), (3, .int w3)]) hx hb dX11_sound_180 hl (k := 3) rfl (by first | rfl | decide) (by decide) rfl (fun ls hl => ?_)
                      refine lv_goto (tgt := 60) hx hb dX11_sound_183 (by decide) ?_
                      exact ih60 _ _ _ _ _ hf hW (lv_sub hl [3, 1, 0] rfl)
                    · replace hf := (if_neg c37).symm.trans hf
                      refine lv_iconst (v := 1) hx hb dX11_sound_174 (by decide) ?_
                      refine lv_goto (tgt := 179) hx hb dX11_sound_175 (by decide) ?_
                      refine lv_istore_n (lv' := [(1, .int (1 : Int32)), (4, .int (15 : Int32)), (0, .ref (ad t i 0)), (2, .int w2), (3, .int w3)]) hx hb dX11_sound_179 rfl hl (by decide) rfl (fun ls hl => ?_)
                      refine lv_iinc (v := (w2 + (1 : Int32))) (lv' := [(2, .int (w2 + (1 : Int32))), (1, .int (1 : Int32)), (4, .int (15 : Int32)), (0, .ref (ad t i 0)), (3, .int w3)]) hx hb dX11_sound_180 hl (k := 3) rfl (by first | rfl | decide) (by decide) rfl (fun ls hl => ?_)
                      refine lv_goto (tgt := 60) hx hb dX11_sound_183 (by decide) ?_
                      exact ih60 _ _ _ _ _ hf hW (lv_sub hl [3, 1, 0] rfl)
              · replace hf := (if_neg c31).symm.trans hf
                refine lv_aload_n hx hb dX11_sound_138 rfl (lv_at hl 0 rfl) ?_
                refine x_get hx hb hts hown hK hW (hI.2 0 (by decide)) uI_o (hI.1 0 _) rfl inX11 2 (by decide) t_742 rfl dX11_sound_139 ?_
                refine lv_sipush (v := 1705) hx hb dX11_sound_142 (by decide) ?_
                refine lv_iload_n hx hb dX11_sound_145 rfl (lv_at hl 2 rfl) ?_
                refine lv_iadd hx hb dX11_sound_146 ?_
                obtain ⟨hi38, hf⟩ := rd_some hf
                refine x_iald hx hb hK hW (hI.2 1 (by decide)) uI_o (hI.1 1 _) hi38 dX11_sound_147 ?_
                generalize g 1 (((1705 : Int32) + w2)).toNatClampNeg = v39 at hf ⊢
                refine lv_goto (tgt := 153) hx hb dX11_sound_148 (by decide) ?_
                refine lv_istore (lv' := [(4, .int v39), (0, .ref (ad t i 0)), (1, .int w1), (2, .int w2), (3, .int w3)]) hx hb dX11_sound_153 hl (by decide) rfl (fun ls hl => ?_)
                refine lv_iload_n hx hb dX11_sound_155 rfl (lv_at hl 2 rfl) ?_
                refine lv_if_eq (tgt := 178) hx hb dX11_sound_156 (by decide) (fun c40 => ?_) (fun c40 => ?_)
                · replace hf := (if_pos c40).symm.trans hf
                  refine lv_iconst (v := 0) hx hb dX11_sound_178 (by decide) ?_
                  refine lv_istore_n (lv' := [(1, .int (0 : Int32)), (4, .int v39), (0, .ref (ad t i 0)), (2, .int w2), (3, .int w3)]) hx hb dX11_sound_179 rfl hl (by decide) rfl (fun ls hl => ?_)
                  refine lv_iinc (v := (w2 + (1 : Int32))) (lv' := [(2, .int (w2 + (1 : Int32))), (1, .int (0 : Int32)), (4, .int v39), (0, .ref (ad t i 0)), (3, .int w3)]) hx hb dX11_sound_180 hl (k := 3) rfl (by first | rfl | decide) (by decide) rfl (fun ls hl => ?_)
                  refine lv_goto (tgt := 60) hx hb dX11_sound_183 (by decide) ?_
                  exact ih60 _ _ _ _ _ hf hW (lv_sub hl [3, 1, 0] rfl)
                · replace hf := (if_neg c40).symm.trans hf
                  refine lv_iload_n hx hb dX11_sound_159 rfl (lv_at hl 4 rfl) ?_
                  refine lv_iconst (v := 2) hx hb dX11_sound_160 (by decide) ?_
                  refine lv_icmp_ge (tgt := 178) hx hb dX11_sound_161 (by decide) (fun c41 => ?_) (fun c41 => ?_)
                  · replace hf := (if_pos c41).symm.trans hf
                    refine lv_iconst (v := 0) hx hb dX11_sound_178 (by decide) ?_
                    refine lv_istore_n (lv' := [(1, .int (0 : Int32)), (4, .int v39), (0, .ref (ad t i 0)), (2, .int w2), (3, .int w3)]) hx hb dX11_sound_179 rfl hl (by decide) rfl (fun ls hl => ?_)
                    refine lv_iinc (v := (w2 + (1 : Int32))) (lv' := [(2, .int (w2 + (1 : Int32))), (1, .int (0 : Int32)), (4, .int v39), (0, .ref (ad t i 0)), (3, .int w3)]) hx hb dX11_sound_180 hl (k := 3) rfl (by first | rfl | decide) (by decide) rfl (fun ls hl => ?_)
                    refine lv_goto (tgt := 60) hx hb dX11_sound_183 (by decide) ?_
                    exact ih60 _ _ _ _ _ hf hW (lv_sub hl [3, 1, 0] rfl)
                  · replace hf := (if_neg c41).symm.trans hf
                    refine lv_aload_n hx hb dX11_sound_164 rfl (lv_at hl 1 rfl) ?_
                    refine lv_iload_n hx hb dX11_sound_165 rfl (lv_at hl 3 rfl) ?_
                    obtain ⟨r43, hc42, hf⟩ := bd_some hf
                    have hC44 := f11_estimated_ok l D cy ad ns M t i hI g w2 r43 hc42
                    refine x_vi (n := 1) (As := [.int w2]) (rest := []) hx hb hml hts hown hK hW hA hC44 (hI.2 0 (by decide)) uI_o (hI.1 0 _) rfl rfl t_887 t_889 p_42 t_14 t_890 rfl (by decide +kernel) rfl rfl ⟨Nat.le_of_ble_eq_true rfl, Nat.le_of_ble_eq_true rfl⟩ hl.1 rfl (lv_room (Nat.le_of_ble_eq_true rfl)) dX11_sound_166 ⟨(Nat.le_of_ble_eq_true rfl), (Nat.le_of_ble_eq_true rfl)⟩ (fun H locs hW => ?_)
                    refine lv_iload hx hb dX11_sound_169 (lv_at hl 0 rfl) ?_
                    refine lv_icmp_lt (tgt := 178) hx hb dX11_sound_171 (by decide) (fun c45 => ?_) (fun c45 => ?_)
                    · replace hf := (if_pos c45).symm.trans hf
                      refine lv_iconst (v := 0) hx hb dX11_sound_178 (by decide) ?_
                      refine lv_istore_n (lv' := [(1, .int (0 : Int32)), (4, .int v39), (0, .ref (ad t i 0)), (2, .int w2), (3, .int w3)]) hx hb dX11_sound_179 rfl hl (by decide) rfl (fun ls hl => ?_)
                      refine lv_iinc (v := (w2 + (1 : Int32))) (lv' := [(2, .int (w2 + (1 : Int32))), (1, .int (0 : Int32)), (4, .int v39), (0, .ref (ad t i 0)), (3, .int w3)]) hx hb dX11_sound_180 hl (k := 3) rfl (by first | rfl | decide) (by decide) rfl (fun ls hl => ?_)
                      refine lv_goto (tgt := 60) hx hb dX11_sound_183 (by decide) ?_
                      exact ih60 _ _ _ _ _ hf hW (lv_sub hl [3, 1, 0] rfl)
                    · replace hf := (if_neg c45).symm.trans hf
                      refine lv_iconst (v := 1) hx hb dX11_sound_174 (by decide) ?_
                      refine lv_goto (tgt := 179) hx hb dX11_sound_175 (by decide) ?_
                      refine lv_istore_n (lv' := [(1, .int (1 : Int32)), (4, .int v39), (0, .ref (ad t i 0)), (2, .int w2), (3, .int w3)]) hx hb dX11_sound_179 rfl hl (by decide) rfl (fun ls hl => ?_)
                      refine lv_iinc (v := (w2 + (1 : Int32))) (lv' := [(2, .int (w2 + (1 : Int32))), (1, .int (1 : Int32)), (4, .int v39), (0, .ref (ad t i 0)), (3, .int w3)]) hx hb dX11_sound_180 hl (k := 3) rfl (by first | rfl | decide) (by decide) rfl (fun ls hl => ?_)
                      refine lv_goto (tgt := 60) hx hb dX11_sound_183 (by decide) ?_
                      exact ih60 _ _ _ _ _ hf hW (lv_sub hl [3, 1, 0] rfl)
            refine lv_iload_n hx hb dX11_sound_60 rfl (lv_at hl 2 rfl) ?_
            refine lv_bipush (v := 100) hx hb dX11_sound_61 (by decide) ?_
            refine lv_icmp_ge (tgt := 186) hx hb dX11_sound_63 (by decide) (fun c19 => ?_) (fun c19 => ?_)
            · replace hf := (if_pos c19).symm.trans hf
              exact J186 _ _ _ _ hf hW (lv_sub hl [0, 1] rfl)
            · replace hf := (if_neg c19).symm.trans hf
              refine lv_iconst (v := 0) hx hb dX11_sound_66 (by decide) ?_
              refine lv_istore_n (lv' := [(3, .int (0 : Int32)), (0, .ref (ad t i 0)), (1, .int w1), (2, .int w2)]) hx hb dX11_sound_67 rfl hl (by decide) rfl (fun ls hl => ?_)
              refine lv_iconst (v := 0) hx hb dX11_sound_68 (by decide) ?_
              refine lv_istore (lv' := [(4, .int (0 : Int32)), (3, .int (0 : Int32)), (0, .ref (ad t i 0)), (1, .int w1), (2, .int w2)]) hx hb dX11_sound_69 hl (by decide) rfl (fun ls hl => ?_)
              have L71 : ∀ (k : Nat) (w1 : Int32) (w2 : Int32) (w3 : Int32) (w4 : Int32) (H : Heap) (locs : List Loc) (ls : Array Slot), f11_sound_l71 g (f11_sound_l60 g k60) k w1 w2 w3 w4 = some r → Wl D cy ad ns (Aw ad ns s.heap.size) s.heap (uI M t i g) H locs → lv_has ls 6 [(0, .ref (ad t i 0)), (1, .int w1), (2, .int w2), (3, .int w3), (4, .int w4)] → W p l e { frames := 3, cells := 0, slots := 0, locals := 66 } s m ([.ref (ad t i 0)] : List Value).toArray below meth c H locs 0 0 (QI below D cy ad ns [.ref (ad t i 0)] s r (uI M t i g)) (F0 m 71 ls []) := by
                intro k
                induction k with
                | zero => intro w1 w2 w3 w4 H locs ls hf; exact absurd hf (by simp [f11_sound_l71])
                | succ k71 ih71 =>
                  intro w1 w2 w3 w4 H locs ls hf hW hl
                  have hf : f11_sound_b71 g (f11_sound_l60 g k60) (f11_sound_l71 g (f11_sound_l60 g k60) k71) w1 w2 w3 w4 = some r := hf
                  unfold f11_sound_b71 at hf
                  refine lv_iload hx hb dX11_sound_71 (lv_at hl 4 rfl) ?_
                  refine lv_iconst (v := 3) hx hb dX11_sound_73 (by decide) ?_
                  refine lv_icmp_ge (tgt := 123) hx hb dX11_sound_74 (by decide) (fun c20 => ?_) (fun c20 => ?_)
                  · replace hf := (if_pos c20).symm.trans hf
                    exact J123 _ _ _ _ _ _ hf hW (lv_sub hl [0, 1, 2, 3] rfl)
                  · replace hf := (if_neg c20).symm.trans hf
                    refine lv_iconst (v := 0) hx hb dX11_sound_77 (by decide) ?_
                    refine lv_istore (lv' := [(5, .int (0 : Int32)), (0, .ref (ad t i 0)), (1, .int w1), (2, .int w2), (3, .int w3), (4, .int w4)]) hx hb dX11_sound_78 hl (by decide) rfl (fun ls hl => ?_)
                    have L80 : ∀ (k : Nat) (w1 : Int32) (w2 : Int32) (w3 : Int32) (w4 : Int32) (w5 : Int32) (H : Heap) (locs : List Loc) (ls : Array Slot), f11_sound_l80 g (f11_sound_l60 g k60) (f11_sound_l71 g (f11_sound_l60 g k60) k71) k w1 w2 w3 w4 w5 = some r → Wl D cy ad ns (Aw ad ns s.heap.size) s.heap (uI M t i g) H locs → lv_has ls 6 [(0, .ref (ad t i 0)), (1, .int w1), (2, .int w2), (3, .int w3), (4, .int w4), (5, .int w5)] → W p l e { frames := 3, cells := 0, slots := 0, locals := 66 } s m ([.ref (ad t i 0)] : List Value).toArray below meth c H locs 0 0 (QI below D cy ad ns [.ref (ad t i 0)] s r (uI M t i g)) (F0 m 80 ls []) := by
                      intro k
                      induction k with
                      | zero => intro w1 w2 w3 w4 w5 H locs ls hf; exact absurd hf (by simp [f11_sound_l80])
                      | succ k80 ih80 =>
                        intro w1 w2 w3 w4 w5 H locs ls hf hW hl
                        have hf : f11_sound_b80 g (f11_sound_l60 g k60) (f11_sound_l71 g (f11_sound_l60 g k60) k71) (f11_sound_l80 g (f11_sound_l60 g k60) (f11_sound_l71 g (f11_sound_l60 g k60) k71) k80) w1 w2 w3 w4 w5 = some r := hf
                        unfold f11_sound_b80 at hf
                        refine lv_iload hx hb dX11_sound_80 (lv_at hl 5 rfl) ?_
                        refine lv_aload_n hx hb dX11_sound_82 rfl (lv_at hl 0 rfl) ?_
                        refine lv_iload hx hb dX11_sound_83 (lv_at hl 4 rfl) ?_
                        obtain ⟨r22, hc21, hf⟩ := bd_some hf
                        have hC23 := f11_length_ok l D cy ad ns M t i hI g w4 r22 hc21
                        refine x_vi (n := 1) (As := [.int w4]) (rest := [.int w5]) hx hb hml hts hown hK hW hA hC23 (hI.2 0 (by decide)) uI_o (hI.1 0 _) rfl rfl t_827 t_829 p_28 t_14 t_830 rfl (by decide +kernel) rfl rfl ⟨Nat.le_of_ble_eq_true rfl, Nat.le_of_ble_eq_true rfl⟩ hl.1 rfl (lv_room (Nat.le_of_ble_eq_true rfl)) dX11_sound_85 ⟨(Nat.le_of_ble_eq_true rfl), (Nat.le_of_ble_eq_true rfl)⟩ (fun H locs hW => ?_)
                        refine lv_icmp_ge (tgt := 117) hx hb dX11_sound_88 (by decide) (fun c24 => ?_) (fun c24 => ?_)
                        · replace hf := (if_pos c24).symm.trans hf
                          refine lv_iinc (v := (w4 + (1 : Int32))) (lv' := [(4, .int (w4 + (1 : Int32))), (0, .ref (ad t i 0)), (1, .int w1), (2, .int w2), (3, .int w3), (5, .int w5)]) hx hb dX11_sound_117 hl (k := 4) rfl (by first | rfl | decide) (by decide) rfl (fun ls hl => ?_)
                          refine lv_goto (tgt := 71) hx hb dX11_sound_120 (by decide) ?_
                          exact ih71 _ _ _ _ _ _ _ hf hW (lv_sub hl [1, 2, 3, 4, 0] rfl)
                        · replace hf := (if_neg c24).symm.trans hf
                          refine lv_iload_n hx hb dX11_sound_91 rfl (lv_at hl 3 rfl) ?_
                          refine lv_aload_n hx hb dX11_sound_92 rfl (lv_at hl 0 rfl) ?_
                          refine lv_iload hx hb dX11_sound_93 (lv_at hl 4 rfl) ?_
                          refine lv_iload hx hb dX11_sound_95 (lv_at hl 5 rfl) ?_
                          obtain ⟨r26, hc25, hf⟩ := bd_some hf
                          have hC27 := f11_keyAt_ok l D cy ad ns M t i hI g w4 w5 r26 hc25
                          refine x_vi (n := 2) (As := [.int w4, .int w5]) (rest := [.int w3]) hx hb hml hts hown hK hW hA hC27 (hI.2 0 (by decide)) uI_o (hI.1 0 _) rfl rfl t_831 t_833 p_29 t_14 t_834 rfl (by decide +kernel) rfl rfl ⟨Nat.le_of_ble_eq_true rfl, Nat.le_of_ble_eq_true rfl⟩ hl.1 rfl (lv_room (Nat.le_of_ble_eq_true rfl)) dX11_sound_97 ⟨(Nat.le_of_ble_eq_true rfl), (Nat.le_of_ble_eq_true rfl)⟩ (fun H locs hW => ?_)
                          refine lv_iload_n hx hb dX11_sound_100 rfl (lv_at hl 2 rfl) ?_
                          refine lv_icmp_ne (tgt := 108) hx hb dX11_sound_101 (by decide) (fun c28 => ?_) (fun c28 => ?_)
                          · replace hf := (if_neg c28).symm.trans hf
                            refine lv_iconst (v := 0) hx hb dX11_sound_108 (by decide) ?_
                            refine lv_iadd hx hb dX11_sound_109 ?_
                            refine lv_istore_n (lv' := [(3, .int (w3 + (0 : Int32))), (0, .ref (ad t i 0)), (1, .int w1), (2, .int w2), (4, .int w4), (5, .int w5)]) hx hb dX11_sound_110 rfl hl (by decide) rfl (fun ls hl => ?_)
                            refine lv_iinc (v := (w5 + (1 : Int32))) (lv' := [(5, .int (w5 + (1 : Int32))), (3, .int (w3 + (0 : Int32))), (0, .ref (ad t i 0)), (1, .int w1), (2, .int w2), (4, .int w4)]) hx hb dX11_sound_111 hl (k := 5) rfl (by first | rfl | decide) (by decide) rfl (fun ls hl => ?_)
                            refine lv_goto (tgt := 80) hx hb dX11_sound_114 (by decide) ?_
                            exact ih80 _ _ _ _ _ _ _ _ hf hW (lv_sub hl [2, 3, 4, 1, 5, 0] rfl)
                          · replace hf := (if_pos c28).symm.trans hf
                            refine lv_iconst (v := 1) hx hb dX11_sound_104 (by decide) ?_
                            refine lv_goto (tgt := 109) hx hb dX11_sound_105 (by decide) ?_
                            refine lv_iadd hx hb dX11_sound_109 ?_
                            refine lv_istore_n (lv' := [(3, .int (w3 + (1 : Int32))), (0, .ref (ad t i 0)), (1, .int w1), (2, .int w2), (4, .int w4), (5, .int w5)]) hx hb dX11_sound_110 rfl hl (by decide) rfl (fun ls hl => ?_)
                            refine lv_iinc (v := (w5 + (1 : Int32))) (lv' := [(5, .int (w5 + (1 : Int32))), (3, .int (w3 + (1 : Int32))), (0, .ref (ad t i 0)), (1, .int w1), (2, .int w2), (4, .int w4)]) hx hb dX11_sound_111 hl (k := 5) rfl (by first | rfl | decide) (by decide) rfl (fun ls hl => ?_)
                            refine lv_goto (tgt := 80) hx hb dX11_sound_114 (by decide) ?_
                            exact ih80 _ _ _ _ _ _ _ _ hf hW (lv_sub hl [2, 3, 4, 1, 5, 0] rfl)
                    exact L80 NF _ _ _ _ _ _ _ _ hf hW (lv_sub hl [1, 2, 3, 4, 5, 0] rfl)
              exact L71 NF _ _ _ _ _ _ _ hf hW (lv_sub hl [2, 3, 4, 1, 0] rfl)
        exact L60 NF _ _ _ _ _ hf hW (lv_sub hl [2, 1, 0] rfl)
