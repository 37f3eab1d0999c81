def f3_keepFromS_b7 (pi : Nat) (rec7 : Int32 → Ob → Option Ob) (w2 : Int32) (S : Ob) : Option Ob :=
  (if (100 : Int32) ≤ w2 then (some S) else (if (30 : Int32) ≤ (S 0 0 4) then (some S) else ((f6_holds (S (pi + 1)) w2).bind (fun r5 => (if r5 = 0 then (rec7 (w2 + (1 : Int32)) S) else (wr 30 (S 0 0 4) (va_up S 0 (va_up (S 0) 4 (upd (S 0 4) ((S 0 0 4)).toNatClampNeg w2))) (fun S9 => (st (va_up S9 0 (va_up (S9 0) 0 (upd (S9 0 0) 4 ((S9 0 0 4) + (1 : Int32))))) (fun S10 => (rec7 (w2 + (1 : Int32)) S10))))))))))
def f3_keepFromS_l7 (pi : Nat) : Nat → Int32 → Ob → Option Ob
  | 0 => fun _ _ => none
  | k + 1 => f3_keepFromS_b7 pi (f3_keepFromS_l7 pi k)
def f3_keepFromS (pi : Nat) (S : Ob) : Option Ob :=
  (st (va_up S 0 (va_up (S 0) 0 (upd (S 0 0) 4 (0 : Int32)))) (fun S1 => (f3_keepFromS_l7 pi NF (0 : Int32) S1)))
set_option maxHeartbeats 4000000 in
set_option maxRecDepth 100000 in
theorem f3_keepFromS_ok (l : Launch) (D : va_G) (cy : Nat → ClassId) (ad : Nat → Nat → Nat → Nat) (ns : List (Nat × Nat × Nat)) (M : Me) (t : Nat) (hI : IsPl cy ad ns t) (pi : Nat) (hj : pi < 5) (S : Ob) (m2 : Ob)  (hf : f3_keepFromS pi S = some m2) : CxV l yX3_keepFrom (.code yX3_keepFrom cX3_keepFrom 3 none :: tk_tb) { frames := 2, cells := 0, slots := 0, locals := 43 } D cy ad ns [.ref (ad t 0 0), .ref (ad t (pi + 1) 0)] (va_up M t S) (va_up M t m2) := by
  refine CxV.of (by decide) (Nat.le_of_ble_eq_true rfl) ?_
  intro p e s m below meth c ls hE hX hW hl
  obtain ⟨hx, hb, hr, hml, hown, hts, hlk, hK⟩ := hE
  have hA : ∀ q : Nat, s.heap.size ≤ q → Aw ad ns s.heap.size q := fun q h => Or.inr h
  have hl : lv_has ls 3 [(0, .ref (ad t 0 0)), (1, .ref (ad t (pi + 1) 0))] := hl
  unfold f3_keepFromS at hf
  refine lv_aload_n hx hb dX3_keepFrom_0 rfl (lv_at hl 0 rfl) ?_
  refine lv_iconst (v := 0) hx hb dX3_keepFrom_1 (by decide) ?_
  replace hf := st_some hf
  refine x_put hx hb hts hown hK hW (hI.2 0 0 (by decide)) up_io (hI.1 0 0 _) rfl inX3 tyX3 tyX3_ok nmX3 4 (by decide) t_136 rfl rfl (Nat.le_of_ble_eq_true rfl) (hI.1 0 0 _) uC_grp dX3_keepFrom_2 (fun H locs hW => ?_)
  generalize (va_up S 0 (va_up (S 0) 0 (upd (S 0 0) 4 (0 : Int32)))) = S1 at hf hW
  refine lv_iconst (v := 0) hx hb dX3_keepFrom_5 (by decide) ?_
  refine lv_istore_n (lv' := [(2, .int (0 : Int32)), (0, .ref (ad t 0 0)), (1, .ref (ad t (pi + 1) 0))]) hx hb dX3_keepFrom_6 rfl hl (by decide) rfl (fun ls hl => ?_)
  have L7 : ∀ (k : Nat) (w2 : Int32) (S : Ob) (H : Heap) (locs : List Loc) (ls : Array Slot), f3_keepFromS_l7 pi k w2 S = some m2 → Wl D cy ad ns (Aw ad ns s.heap.size) s.heap (va_up M t S) H locs → lv_has ls 3 [(0, .ref (ad t 0 0)), (1, .ref (ad t (pi + 1) 0)), (2, .int w2)] → W p l e { frames := 2, cells := 0, slots := 0, locals := 43 } s m ([.ref (ad t 0 0), .ref (ad t (pi + 1) 0)] : List Value).toArray below meth c H locs 0 0 (QV below D cy ad ns [.ref (ad t 0 0), .ref (ad t (pi + 1) 0)] s (va_up M t m2)) (F0 m 7 ls []) := by
    intro k
    induction k with
    | zero => intro w2 S H locs ls hf; exact absurd hf (by simp [f3_keepFromS_l7])
    | succ k7 ih7 =>
      intro w2 S H locs ls hf hW hl
      have hf : f3_keepFromS_b7 pi (f3_keepFromS_l7 pi k7) w2 S = some m2 := hf
      unfold f3_keepFromS_b7 at hf
      refine lv_iload_n hx hb dX3_keepFrom_7 rfl (lv_at hl 2 rfl) ?_
      refine lv_bipush (v := 100) hx hb dX3_keepFrom_8 (by decide) ?_
      refine lv_icmp_ge (tgt := 56) hx hb dX3_keepFrom_10 (by decide) (fun c2 => ?_) (fun c2 => ?_)
      · replace hf := (if_pos c2).symm.trans hf
        exact x_vret hx hb hr hlk hK hW (congrArg (fun q => (va_up M t q)) (Option.some.inj hf)) dX3_keepFrom_56
      · replace hf := (if_neg c2).symm.trans hf
        refine lv_aload_n hx hb dX3_keepFrom_13 rfl (lv_at hl 0 rfl) ?_
        refine x_get hx hb hts hown hK hW (hI.2 0 0 (by decide)) up_io (hI.1 0 0 _) rfl inX3 4 (by decide) t_136 rfl dX3_keepFrom_14 ?_
        refine lv_bipush (v := 30) hx hb dX3_keepFrom_17 (by decide) ?_
        refine lv_icmp_ge (tgt := 56) hx hb dX3_keepFrom_19 (by decide) (fun c3 => ?_) (fun c3 => ?_)
        · replace hf := (if_pos c3).symm.trans hf
          exact x_vret hx hb hr hlk hK hW (congrArg (fun q => (va_up M t q)) (Option.some.inj hf)) dX3_keepFrom_56
        · replace hf := (if_neg c3).symm.trans hf
          refine lv_aload_n hx hb dX3_keepFrom_22 rfl (lv_at hl 1 rfl) ?_
          refine lv_iload_n hx hb dX3_keepFrom_23 rfl (lv_at hl 2 rfl) ?_
          obtain ⟨r5, hc4, hf⟩ := bd_some hf
          have hC6 := f6_holds_ok l D cy ad ns (va_up M t S) t (pi + 1) (hI.seat hj) (S (pi + 1)) w2 r5 hc4
          rw [uI_gid] at hC6
          refine x_ui (x := ⟨"SketchCache$Policy", "holds", "(I)Z"⟩) (y := yX6_holds) (n := 1) (As := [.int w2]) (rest := []) hx hb hml hts hown hK (xw_650 hX) hW hA hC6 ((hI.seat hj).2 0 (by decide)) up_io ((hI.seat hj).1 0 _) rfl rfl t_649 t_651 t_655 t_656 t_4 t_657 rfl (by decide +kernel) rfl rfl ⟨Nat.le_of_ble_eq_true rfl, Nat.le_of_ble_eq_true rfl⟩ hl.1 rfl (lv_room (Nat.le_of_ble_eq_true rfl)) dX3_keepFrom_24 ⟨(Nat.le_of_ble_eq_true rfl), (Nat.le_of_ble_eq_true rfl)⟩ (fun H locs hW => ?_)
          refine lv_if_eq (tgt := 50) hx hb dX3_keepFrom_27 (by decide) (fun c7 => ?_) (fun c7 => ?_)
          · replace hf := (if_pos c7).symm.trans hf
            refine lv_iinc (v := (w2 + (1 : Int32))) (lv' := [(2, .int (w2 + (1 : Int32))), (0, .ref (ad t 0 0)), (1, .ref (ad t (pi + 1) 0))]) hx hb dX3_keepFrom_50 hl (k := 2) rfl (by first | rfl | decide) (by decide) rfl (fun ls hl => ?_)
            refine lv_goto (tgt := 7) hx hb dX3_keepFrom_53 (by decide) ?_
            exact ih7 _ _ _ _ _ hf hW (lv_sub hl [1, 2, 0] rfl)
          · replace hf := (if_neg c7).symm.trans hf
            refine lv_aload_n hx hb dX3_keepFrom_30 rfl (lv_at hl 0 rfl) ?_
            refine x_get hx hb hts hown hK hW (hI.2 0 0 (by decide)) up_io (hI.1 0 0 _) rfl inX3 3 (by decide) t_135 rfl dX3_keepFrom_31 ?_
            refine lv_aload_n hx hb dX3_keepFrom_34 rfl (lv_at hl 0 rfl) ?_
            refine x_get hx hb hts hown hK hW (hI.2 0 0 (by decide)) up_io (hI.1 0 0 _) rfl inX3 4 (by decide) t_136 rfl dX3_keepFrom_35 ?_
            refine lv_iload_n hx hb dX3_keepFrom_38 rfl (lv_at hl 2 rfl) ?_
            obtain ⟨hi8, hf⟩ := wr_some hf
            refine x_iast hx hb hK hW (hI.2 0 4 (by decide)) up_io (fun _ => (hI.1 0 4 _)) hi8 uC_grp dX3_keepFrom_39 (fun H locs hW => ?_)
            generalize (va_up S 0 (va_up (S 0) 4 (upd (S 0 4) ((S 0 0 4)).toNatClampNeg w2))) = S9 at hf hW
            refine lv_aload_n hx hb dX3_keepFrom_40 rfl (lv_at hl 0 rfl) ?_
            refine lv_dup hx hb dX3_keepFrom_41 rfl ?_
            refine x_get hx hb hts hown hK hW (hI.2 0 0 (by decide)) up_io (hI.1 0 0 _) rfl inX3 4 (by decide) t_136 rfl dX3_keepFrom_42 ?_
            refine lv_iconst (v := 1) hx hb dX3_keepFrom_45 (by decide) ?_
            refine lv_iadd hx hb dX3_keepFrom_46 ?_
            replace hf := st_some hf
            refine x_put hx hb hts hown hK hW (hI.2 0 0 (by decide)) up_io (hI.1 0 0 _) rfl inX3 tyX3 tyX3_ok nmX3 4 (by decide) t_136 rfl rfl (Nat.le_of_ble_eq_true rfl) (hI.1 0 0 _) uC_grp dX3_keepFrom_47 (fun H locs hW => ?_)
            generalize (va_up S9 0 (va_up (S9 0) 0 (upd (S9 0 0) 4 ((S9 0 0 4) + (1 : Int32))))) = S10 at hf hW
            refine lv_iinc (v := (w2 + (1 : Int32))) (lv' := [(2, .int (w2 + (1 : Int32))), (0, .ref (ad t 0 0)), (1, .ref (ad t (pi + 1) 0))]) hx hb dX3_keepFrom_50 hl (k := 2) rfl (by first | rfl | decide) (by decide) rfl (fun ls hl => ?_)
            refine lv_goto (tgt := 7) hx hb dX3_keepFrom_53 (by decide) ?_
            exact ih7 _ _ _ _ _ hf hW (lv_sub hl [1, 2, 0] rfl)
  exact L7 NF _ _ _ _ _ hf hW (lv_sub hl [1, 2, 0] rfl)
def f3_keepFromF_b7 (rec7 : Int32 → Ob → Option Ob) (w2 : Int32) (S : Ob) : Option Ob :=
  (if (100 : Int32) ≤ w2 then (some S) else (if (30 : Int32) ≤ (S 0 0 4) then (some S) else ((f2_holds S w2).bind (fun r5 => (if r5 = 0 then (rec7 (w2 + (1 : Int32)) S) else (wr 30 (S 0 0 4) (va_up S 0 (va_up (S 0) 4 (upd (S 0 4) ((S 0 0 4)).toNatClampNeg w2))) (fun S9 => (st (va_up S9 0 (va_up (S9 0) 0 (upd (S9 0 0) 4 ((S9 0 0 4) + (1 : Int32))))) (fun S10 => (rec7 (w2 + (1 : Int32)) S10))))))))))
def f3_keepFromF_l7 : Nat → Int32 → Ob → Option Ob
  | 0 => fun _ _ => none
  | k + 1 => f3_keepFromF_b7 (f3_keepFromF_l7 k)
def f3_keepFromF (S : Ob) : Option Ob :=
  (st (va_up S 0 (va_up (S 0) 0 (upd (S 0 0) 4 (0 : Int32)))) (fun S1 => (f3_keepFromF_l7 NF (0 : Int32) S1)))
set_option maxHeartbeats 4000000 in
set_option maxRecDepth 100000 in
theorem f3_keepFromF_ok (l : Launch) (D : va_G) (cy : Nat → ClassId) (ad : Nat → Nat → Nat → Nat) (ns : List (Nat × Nat × Nat)) (M : Me) (t : Nat) (hI : IsPl cy ad ns t) (S : Ob) (m2 : Ob)  (hf : f3_keepFromF S = some m2) : CxV l yX3_keepFrom (.code yX3_keepFrom cX3_keepFrom 3 none :: tk_tb) { frames := 1, cells := 0, slots := 0, locals := 21 } D cy ad ns [.ref (ad t 0 0), .ref (ad t 6 0)] (va_up M t S) (va_up M t m2) := by
  refine CxV.of (by decide) (Nat.le_of_ble_eq_true rfl) ?_
  intro p e s m below meth c ls hE hX hW hl
  obtain ⟨hx, hb, hr, hml, hown, hts, hlk, hK⟩ := hE
  have hA : ∀ q : Nat, s.heap.size ≤ q → Aw ad ns s.heap.size q := fun q h => Or.inr h
  have hl : lv_has ls 3 [(0, .ref (ad t 0 0)), (1, .ref (ad t 6 0))] := hl
  unfold f3_keepFromF at hf
  refine lv_aload_n hx hb dX3_keepFrom_0 rfl (lv_at hl 0 rfl) ?_
  refine lv_iconst (v := 0) hx hb dX3_keepFrom_1 (by decide) ?_
  replace hf := st_some hf
  refine x_put hx hb hts hown hK hW (hI.2 0 0 (by decide)) up_io (hI.1 0 0 _) rfl inX3 tyX3 tyX3_ok nmX3 4 (by decide) t_136 rfl rfl (Nat.le_of_ble_eq_true rfl) (hI.1 0 0 _) uC_grp dX3_keepFrom_2 (fun H locs hW => ?_)
  generalize (va_up S 0 (va_up (S 0) 0 (upd (S 0 0) 4 (0 : Int32)))) = S1 at hf hW
  refine lv_iconst (v := 0) hx hb dX3_keepFrom_5 (by decide) ?_
  refine lv_istore_n (lv' := [(2, .int (0 : Int32)), (0, .ref (ad t 0 0)), (1, .ref (ad t 6 0))]) hx hb dX3_keepFrom_6 rfl hl (by decide) rfl (fun ls hl => ?_)
  have L7 : ∀ (k : Nat) (w2 : Int32) (S : Ob) (H : Heap) (locs : List Loc) (ls : Array Slot), f3_keepFromF_l7 k w2 S = some m2 → Wl D cy ad ns (Aw ad ns s.heap.size) s.heap (va_up M t S) H locs → lv_has ls 3 [(0, .ref (ad t 0 0)), (1, .ref (ad t 6 0)), (2, .int w2)] → W p l e { frames := 1, cells := 0, slots := 0, locals := 21 } s m ([.ref (ad t 0 0), .ref (ad t 6 0)] : List Value).toArray below meth c H locs 0 0 (QV below D cy ad ns [.ref (ad t 0 0), .ref (ad t 6 0)] s (va_up M t m2)) (F0 m 7 ls []) := by
    intro k
    induction k with
    | zero => intro w2 S H locs ls hf; exact absurd hf (by simp [f3_keepFromF_l7])
    | succ k7 ih7 =>
      intro w2 S H locs ls hf hW hl
      have hf : f3_keepFromF_b7 (f3_keepFromF_l7 k7) w2 S = some m2 := hf
      unfold f3_keepFromF_b7 at hf
      refine lv_iload_n hx hb dX3_keepFrom_7 rfl (lv_at hl 2 rfl) ?_
      refine lv_bipush (v := 100) hx hb dX3_keepFrom_8 (by decide) ?_
      refine lv_icmp_ge (tgt := 56) hx hb dX3_keepFrom_10 (by decide) (fun c2 => ?_) (fun c2 => ?_)
      · replace hf := (if_pos c2).symm.trans hf
        exact x_vret hx hb hr hlk hK hW (congrArg (fun q => (va_up M t q)) (Option.some.inj hf)) dX3_keepFrom_56
      · replace hf := (if_neg c2).symm.trans hf
        refine lv_aload_n hx hb dX3_keepFrom_13 rfl (lv_at hl 0 rfl) ?_
        refine x_get hx hb hts hown hK hW (hI.2 0 0 (by decide)) up_io (hI.1 0 0 _) rfl inX3 4 (by decide) t_136 rfl dX3_keepFrom_14 ?_
        refine lv_bipush (v := 30) hx hb dX3_keepFrom_17 (by decide) ?_
        refine lv_icmp_ge (tgt := 56) hx hb dX3_keepFrom_19 (by decide) (fun c3 => ?_) (fun c3 => ?_)
        · replace hf := (if_pos c3).symm.trans hf
          exact x_vret hx hb hr hlk hK hW (congrArg (fun q => (va_up M t q)) (Option.some.inj hf)) dX3_keepFrom_56
        · replace hf := (if_neg c3).symm.trans hf
          refine lv_aload_n hx hb dX3_keepFrom_22 rfl (lv_at hl 1 rfl) ?_
          refine lv_iload_n hx hb dX3_keepFrom_23 rfl (lv_at hl 2 rfl) ?_
          obtain ⟨r5, hc4, hf⟩ := bd_some hf
          have hC6 := f2_holds_ok l D cy ad ns M t hI S w2 r5 hc4
          refine x_ui (x := ⟨"SketchCache$Policy", "holds", "(I)Z"⟩) (y := yX2_holds) (n := 1) (As := [.int w2]) (rest := []) hx hb hml hts hown hK (xw_650 hX) hW hA hC6 (hI.2 6 0 (by decide)) up_io (hI.1 6 0 _) rfl rfl t_649 t_651 t_652 t_653 t_5 t_654 rfl (by decide +kernel) rfl rfl ⟨Nat.le_of_ble_eq_true rfl, Nat.le_of_ble_eq_true rfl⟩ hl.1 rfl (lv_room (Nat.le_of_ble_eq_true rfl)) dX3_keepFrom_24 ⟨(Nat.le_of_ble_eq_true rfl), (Nat.le_of_ble_eq_true rfl)⟩ (fun H locs hW => ?_)
          refine lv_if_eq (tgt := 50) hx hb dX3_keepFrom_27 (by decide) (fun c7 => ?_) (fun c7 => ?_)
          · replace hf := (if_pos c7).symm.trans hf
            refine lv_iinc (v := (w2 + (1 : Int32))) (lv' := [(2, .int (w2 + (1 : Int32))), (0, .ref (ad t 0 0)), (1, .ref (ad t 6 0))]) hx hb dX3_keepFrom_50 hl (k := 2) rfl (by first | rfl | decide) (by decide) rfl (fun ls hl => ?_)
            refine lv_goto (tgt := 7) hx hb dX3_keepFrom_53 (by decide) ?_
            exact ih7 _ _ _ _ _ hf hW (lv_sub hl [1, 2, 0] rfl)
          · replace hf := (if_neg c7).symm.trans hf
            refine lv_aload_n hx hb dX3_keepFrom_30 rfl (lv_at hl 0 rfl) ?_
            refine x_get hx hb hts hown hK hW (hI.2 0 0 (by decide)) up_io (hI.1 0 0 _) rfl inX3 3 (by decide) t_135 rfl dX3_keepFrom_31 ?_
            refine lv_aload_n hx hb dX3_keepFrom_34 rfl (lv_at hl 0 rfl) ?_
            refine x_get hx hb hts hown hK hW (hI.2 0 0 (by decide)) up_io (hI.1 0 0 _) rfl inX3 4 (by decide) t_136 rfl dX3_keepFrom_35 ?_
            refine lv_iload_n hx hb dX3_keepFrom_38 rfl (lv_at hl 2 rfl) ?_
            obtain ⟨hi8, hf⟩ := wr_some hf
            refine x_iast hx hb hK hW (hI.2 0 4 (by decide)) up_io (fun _ => (hI.1 0 4 _)) hi8 uC_grp dX3_keepFrom_39 (fun H locs hW => ?_)
            generalize (va_up S 0 (va_up (S 0) 4 (upd (S 0 4) ((S 0 0 4)).toNatClampNeg w2))) = S9 at hf hW
            refine lv_aload_n hx hb dX3_keepFrom_40 rfl (lv_at hl 0 rfl) ?_
            refine lv_dup hx hb dX3_keepFrom_41 rfl ?_
            refine x_get hx hb hts hown hK hW (hI.2 0 0 (by decide)) up_io (hI.1 0 0 _) rfl inX3 4 (by decide) t_136 rfl dX3_keepFrom_42 ?_
            refine lv_iconst (v := 1) hx hb dX3_keepFrom_45 (by decide) ?_
            refine lv_iadd hx hb dX3_keepFrom_46 ?_
            replace hf := st_some hf
            refine x_put hx hb hts hown hK hW (hI.2 0 0 (by decide)) up_io (hI.1 0 0 _) rfl inX3 tyX3 tyX3_ok nmX3 4 (by decide) t_136 rfl rfl (Nat.le_of_ble_eq_true rfl) (hI.1 0 0 _) uC_grp dX3_keepFrom_47 (fun H locs hW => ?_)
            generalize (va_up S9 0 (va_up (S9 0) 0 (upd (S9 0 0) 4 ((S9 0 0 4) + (1 : Int32))))) = S10 at hf hW
            refine lv_iinc (v := (w2 + (1 : Int32))) (lv' := [(2, .int (w2 + (1 : Int32))), (0, .ref (ad t 0 0)), (1, .ref (ad t 6 0))]) hx hb dX3_keepFrom_50 hl (k := 2) rfl (by first | rfl | decide) (by decide) rfl (fun ls hl => ?_)
            refine lv_goto (tgt := 7) hx hb dX3_keepFrom_53 (by decide) ?_
            exact ih7 _ _ _ _ _ hf hW (lv_sub hl [1, 2, 0] rfl)
  exact L7 NF _ _ _ _ _ hf hW (lv_sub hl [1, 2, 0] rfl)
def f3_playS_j69 (pi : Nat) (h : Sg) (w7 : Int32) (S : Ob) : Option (Int32 × Ob) :=
  ((f3_keepFromS pi S).bind (fun S22 => (some (w7, S22))))
def f3_playS_b30 (pi : Nat) (h : Sg) (rec30 : Int32 → Int32 → Int32 → Ob → Option (Int32 × Ob)) (w5 : Int32) (w7 : Int32) (w8 : Int32) (S : Ob) : Option (Int32 × Ob) :=
  (if w5 ≤ w8 then (f3_playS_j69 pi h w7 S) else ((f9_keyAt h w8).bind (fun r11 => (rd 300 (S 0 2) w8 (fun v14 => (b2 (f6_asks r11 w8 v14 (S (pi + 1))) (fun r18 g16 => (st (va_up S (pi + 1) g16) (fun S17 => (if r18 = 0 then (rec30 w5 w7 (w8 + (1 : Int32)) S17) else (rec30 w5 (w7 + (1 : Int32)) (w8 + (1 : Int32)) S17)))))))))))
def f3_playS_l30 (pi : Nat) (h : Sg) : Nat → Int32 → Int32 → Int32 → Ob → Option (Int32 × Ob)
  | 0 => fun _ _ _ _ => none
  | k + 1 => f3_playS_b30 pi h (f3_playS_l30 pi h k)
def f3_playS (pi : Nat) (h : Sg) (a1 : Int32) (a2 : Int32) (a4 : Int32) (a5 : Int32) (S : Ob) : Option (Int32 × Ob) :=
  (ck 6 a1 ((f3_lookAhead h a4 a5 S).bind (fun S3 => ((f6_begin a2 (S3 (pi + 1))).bind (fun g6 => (st (va_up S3 (pi + 1) g6) (fun S7 => (f3_playS_l30 pi h NF a5 (0 : Int32) a4 S7))))))))
set_option maxHeartbeats 4000000 in
set_option maxRecDepth 100000 in
theorem f3_playS_ok (l : Launch) (D : va_G) (cy : Nat → ClassId) (ad : Nat → Nat → Nat → Nat) (ns : List (Nat × Nat × Nat)) (M : Me) (t : Nat) (hI : IsPl cy ad ns t) (pi : Nat) (hj : pi < 5) (u : Nat) (hne : u ≠ t) (hT : IsTrace cy ad ns u 4) (h : Sg) (hO : M u 4 = h) (S : Ob) (a1 : Int32) (a2 : Int32) (a4 : Int32) (a5 : Int32) (r : Int32) (m2 : Ob)  (hp : a1.toNatClampNeg = pi) (hf : f3_playS pi h a1 a2 a4 a5 S = some (r, m2)) : CxI l yX3_play (.code yX3_play cX3_play 9 (some .int) :: tk_tb) { frames := 4, cells := 0, slots := 0, locals := 89 } D cy ad ns [.ref (ad t 0 0), .int a1, .int a2, .ref (ad u 4 0), .int a4, .int a5] (va_up M t S) r (va_up M t m2) := by
  refine CxI.of (by decide) (Nat.le_of_ble_eq_true rfl) ?_
  intro p e s m below meth c ls hE hX hW hl
  obtain ⟨hx, hb, hr, hml, hown, hts, hlk, hK⟩ := hE
  have hA : ∀ q : Nat, s.heap.size ≤ q → Aw ad ns s.heap.size q := fun q h => Or.inr h
  have hl : lv_has ls 9 [(0, .ref (ad t 0 0)), (1, .int a1), (2, .int a2), (3, .ref (ad u 4 0)), (4, .int a4), (5, .int a5)] := hl
  unfold f3_playS at hf
  have J69 : ∀ (w7 : Int32) (S : Ob) (H : Heap) (locs : List Loc) (ls : Array Slot), f3_playS_j69 pi h w7 S = some (r, m2) → Wl D cy ad ns (Aw ad ns s.heap.size) s.heap (va_up M t S) H locs → lv_has ls 9 [(0, .ref (ad t 0 0)), (6, .ref (ad t (pi + 1) 0)), (7, .int w7)] → W p l e { frames := 4, cells := 0, slots := 0, locals := 89 } s m ([.ref (ad t 0 0), .int a1, .int a2, .ref (ad u 4 0), .int a4, .int a5] : List Value).toArray below meth c H locs 0 0 (QI below D cy ad ns [.ref (ad t 0 0), .int a1, .int a2, .ref (ad u 4 0), .int a4, .int a5] s r (va_up M t m2)) (F0 m 69 ls []) := by
    intro w7 S H locs ls hf hW hl
    unfold f3_playS_j69 at hf
    refine lv_aload_n hx hb dX3_play_69 rfl (lv_at hl 0 rfl) ?_
    refine lv_aload hx hb dX3_play_70 (lv_at hl 1 rfl) ?_
    obtain ⟨S22, hc21, hf⟩ := bd_some hf
    have hC23 := f3_keepFromS_ok l D cy ad ns M t hI pi hj S S22 hc21
    refine x_vxv (n := 1) (As := [.ref (ad t (pi + 1) 0)]) (rest := []) hx hb hml hts hown hK hX hW hA hC23 (hI.2 0 0 (by decide)) up_io (hI.1 0 0 _) rfl rfl t_645 t_647 p_23 t_2 t_648 rfl (by decide +kernel) rfl rfl ⟨Nat.le_of_ble_eq_true rfl, Nat.le_of_ble_eq_true rfl⟩ hl.1 rfl (lv_room (Nat.le_of_ble_eq_true rfl)) dX3_play_72 ⟨(Nat.le_of_ble_eq_true rfl), (Nat.le_of_ble_eq_true rfl)⟩ (fun H locs hW => ?_)
    refine lv_iload hx hb dX3_play_75 (lv_at hl 2 rfl) ?_
    exact x_iret hx hb hr hlk hK hW (congrArg Prod.fst (Option.some.inj hf)) (congrArg (fun q => (va_up M t (Prod.snd q))) (Option.some.inj hf)) dX3_play_77
  refine lv_aload_n hx hb dX3_play_0 rfl (lv_at hl 0 rfl) ?_
  refine x_get hx hb hts hown hK hW (hI.2 0 0 (by decide)) up_io (hI.1 0 0 _) rfl inX3 0 (by decide) t_132 rfl dX3_play_1 ?_
  refine lv_iload_n hx hb dX3_play_4 rfl (lv_at hl 1 rfl) ?_
  obtain ⟨hi1, hf⟩ := ck_some hf
  refine x_aalp hx hb hK hW (hI.2 0 1 (by decide)) up_io (hI.1 0 1 _) hi1 dX3_play_5 ?_
  rw [hp]
  refine lv_astore (lv' := [(6, .ref (ad t (pi + 1) 0)), (0, .ref (ad t 0 0)), (1, .int a1), (2, .int a2), (3, .ref (ad u 4 0)), (4, .int a4), (5, .int a5)]) hx hb dX3_play_6 hl (by decide) rfl (fun ls hl => ?_)
  refine lv_aload_n hx hb dX3_play_8 rfl (lv_at hl 1 rfl) ?_
  refine lv_aload_n hx hb dX3_play_9 rfl (lv_at hl 4 rfl) ?_
  refine lv_iload hx hb dX3_play_10 (lv_at hl 5 rfl) ?_
  refine lv_iload hx hb dX3_play_12 (lv_at hl 6 rfl) ?_
  obtain ⟨S3, hc2, hf⟩ := bd_some hf
  have hC4 := f3_lookAhead_ok l D cy ad ns M t hI u hne hT h hO S a4 a5 S3 hc2
  refine x_vv (n := 3) (As := [.ref (ad u 4 0), .int a4, .int a5]) (rest := []) hx hb hml hts hown hK hW hA hC4 (hI.2 0 0 (by decide)) up_io (hI.1 0 0 _) rfl rfl t_567 t_569 p_14 t_2 t_570 rfl (by decide +kernel) rfl rfl ⟨Nat.le_of_ble_eq_true rfl, Nat.le_of_ble_eq_true rfl⟩ hl.1 rfl (lv_room (Nat.le_of_ble_eq_true rfl)) dX3_play_14 ⟨(Nat.le_of_ble_eq_true rfl), (Nat.le_of_ble_eq_true rfl)⟩ (fun H locs hW => ?_)
  refine lv_aload hx hb dX3_play_17 (lv_at hl 0 rfl) ?_
  refine lv_iload_n hx hb dX3_play_19 rfl (lv_at hl 3 rfl) ?_
  obtain ⟨g6, hc5, hf⟩ := bd_some hf
  replace hf := st_some hf
  have hC8 := f6_begin_ok l D cy ad ns (va_up M t S3) t (pi + 1) (hI.seat hj) (S3 (pi + 1)) a2 g6 hc5
  rw [uI_gid, uI_grp] at hC8
  refine x_uv (x := ⟨"SketchCache$Policy", "begin", "(I)V"⟩) (y := yX6_begin) (n := 1) (As := [.int a2]) (rest := []) hx hb hml hts hown hK (xw_574 hX) hW hA hC8 ((hI.seat hj).2 0 (by decide)) up_io ((hI.seat hj).1 0 _) rfl rfl t_573 t_575 t_583 t_584 t_4 t_585 rfl (by decide +kernel) rfl rfl ⟨Nat.le_of_ble_eq_true rfl, Nat.le_of_ble_eq_true rfl⟩ hl.1 rfl (lv_room (Nat.le_of_ble_eq_true rfl)) dX3_play_20 ⟨(Nat.le_of_ble_eq_true rfl), (Nat.le_of_ble_eq_true rfl)⟩ (fun H locs hW => ?_)
  generalize (va_up S3 (pi + 1) g6) = S7 at hf hW
  refine lv_iconst (v := 0) hx hb dX3_play_23 (by decide) ?_
  refine lv_istore (lv' := [(7, .int (0 : Int32)), (6, .ref (ad t (pi + 1) 0)), (0, .ref (ad t 0 0)), (1, .int a1), (2, .int a2), (3, .ref (ad u 4 0)), (4, .int a4), (5, .int a5)]) hx hb dX3_play_24 hl (by decide) rfl (fun ls hl => ?_)
  refine lv_iload hx hb dX3_play_26 (lv_at hl 6 rfl) ?_
  refine lv_istore (lv' := [(8, .int a4), (7, .int (0 : Int32)), (6, .ref (ad t (pi + 1) 0)), (0, .ref (ad t 0 0)), (1, .int a1), (2, .int a2), (3, .ref (ad u 4 0)), (4, .int a4), (5, .int a5)]) hx hb dX3_play_28 hl (by decide) rfl (fun ls hl => ?_)
  have L30 : ∀ (k : Nat) (w5 : Int32) (w7 : Int32) (w8 : Int32) (S : Ob) (H : Heap) (locs : List Loc) (ls : Array Slot), f3_playS_l30 pi h k w5 w7 w8 S = some (r, m2) → Wl D cy ad ns (Aw ad ns s.heap.size) s.heap (va_up M t S) H locs → lv_has ls 9 [(0, .ref (ad t 0 0)), (3, .ref (ad u 4 0)), (5, .int w5), (6, .ref (ad t (pi + 1) 0)), (7, .int w7), (8, .int w8)] → W p l e { frames := 4, cells := 0, slots := 0, locals := 89 } s m ([.ref (ad t 0 0), .int a1, .int a2, .ref (ad u 4 0), .int a4, .int a5] : List Value).toArray below meth c H locs 0 0 (QI below D cy ad ns [.ref (ad t 0 0), .int a1, .int a2, .ref (ad u 4 0), .int a4, .int a5] s r (va_up M t m2)) (F0 m 30 ls []) := by
    intro k
    induction k with
    | zero => intro w5 w7 w8 S H locs ls hf; exact absurd hf (by simp [f3_playS_l30])
    | succ k30 ih30 =>
      intro w5 w7 w8 S H locs ls hf hW hl
      have hf : f3_playS_b30 pi h (f3_playS_l30 pi h k30) w5 w7 w8 S = some (r, m2) := hf
      unfold f3_playS_b30 at hf
      refine lv_iload hx hb dX3_play_30 (lv_at hl 5 rfl) ?_
      refine lv_iload hx hb dX3_play_32 (lv_at hl 2 rfl) ?_
      refine lv_icmp_ge (tgt := 69) hx hb dX3_play_34 (by decide) (fun c9 => ?_) (fun c9 => ?_)
      · replace hf := (if_pos c9).symm.trans hf
        exact J69 _ _ _ _ _ hf hW (lv_sub hl [0, 3, 4] rfl)
      · replace hf := (if_neg c9).symm.trans hf
        refine lv_aload hx hb dX3_play_37 (lv_at hl 3 rfl) ?_
        refine lv_aload_n hx hb dX3_play_39 rfl (lv_at hl 1 rfl) ?_
        refine lv_iload hx hb dX3_play_40 (lv_at hl 5 rfl) ?_
        obtain ⟨r11, hc10, hf⟩ := bd_some hf
        have hC12 := f9_keyAt_ok l D cy ad ns (va_up M t S) u 4 hT h w8 r11 hc10
        rw [uI_same (up_tr2 hne hO)] at hC12
        refine x_vi (n := 1) (As := [.int w8]) (rest := [.ref (ad t (pi + 1) 0)]) hx hb hml hts hown hK hW hA hC12 (hT.2 0 (by decide)) (up_tr hne hO) (hT.1 0 _) rfl rfl t_572 t_556 t_557 t_10 t_558 rfl (by decide +kernel) rfl rfl ⟨Nat.le_of_ble_eq_true rfl, Nat.le_of_ble_eq_true rfl⟩ hl.1 rfl (lv_room (Nat.le_of_ble_eq_true rfl)) dX3_play_42 ⟨(Nat.le_of_ble_eq_true rfl), (Nat.le_of_ble_eq_true rfl)⟩ (fun H locs hW => ?_)
        refine lv_iload hx hb dX3_play_45 (lv_at hl 5 rfl) ?_
        refine lv_aload_n hx hb dX3_play_47 rfl (lv_at hl 0 rfl) ?_
        refine x_get hx hb hts hown hK hW (hI.2 0 0 (by decide)) up_io (hI.1 0 0 _) rfl inX3 1 (by decide) t_133 rfl dX3_play_48 ?_
        refine lv_iload hx hb dX3_play_51 (lv_at hl 5 rfl) ?_
        obtain ⟨hi13, hf⟩ := rd_some hf
        refine x_iald hx hb hK hW (hI.2 0 2 (by decide)) up_io (hI.1 0 2 _) hi13 dX3_play_53 ?_
        generalize S 0 2 (w8).toNatClampNeg = v14 at hf ⊢
        obtain ⟨r18, g16, hc15, hf⟩ := b2_some hf
        replace hf := st_some hf
        have hC19 := f6_asks_ok l D cy ad ns (va_up M t S) t (pi + 1) (hI.seat hj) (S (pi + 1)) r11 w8 v14 r18 g16 hc15
        rw [uI_gid, uI_grp] at hC19
        refine x_ui (x := ⟨"SketchCache$Policy", "asks", "(III)Z"⟩) (y := yX6_asks) (n := 3) (As := [.int r11, .int w8, .int v14]) (rest := []) hx hb hml hts hown hK (xw_589 hX) hW hA hC19 ((hI.seat hj).2 0 (by decide)) up_io ((hI.seat hj).1 0 _) rfl rfl t_588 t_590 t_618 t_619 t_4 t_620 rfl (by decide +kernel) rfl rfl ⟨Nat.le_of_ble_eq_true rfl, Nat.le_of_ble_eq_true rfl⟩ hl.1 rfl (lv_room (Nat.le_of_ble_eq_true rfl)) dX3_play_54 ⟨(Nat.le_of_ble_eq_true rfl), (Nat.le_of_ble_eq_true rfl)⟩ (fun H locs hW => ?_)
        generalize (va_up S (pi + 1) g16) = S17 at hf hW
        refine lv_if_eq (tgt := 63) hx hb dX3_play_57 (by decide) (fun c20 => ?_) (fun c20 => ?_)
        · replace hf := (if_pos c20).symm.trans hf
          refine lv_iinc (v := (w8 + (1 : Int32))) (lv' := [(8, .int (w8 + (1 : Int32))), (0, .ref (ad t 0 0)), (3, .ref (ad u 4 0)), (5, .int w5), (6, .ref (ad t (pi + 1) 0)), (7, .int w7)]) hx hb dX3_play_63 hl (k := 5) rfl (by first | rfl | decide) (by decide) rfl (fun ls hl => ?_)
          refine lv_goto (tgt := 30) hx hb dX3_play_66 (by decide) ?_
          exact ih30 _ _ _ _ _ _ _ hf hW (lv_sub hl [1, 2, 3, 4, 5, 0] rfl)
        · replace hf := (if_neg c20).symm.trans hf
          refine lv_iinc (v := (w7 + (1 : Int32))) (lv' := [(7, .int (w7 + (1 : Int32))), (0, .ref (ad t 0 0)), (3, .ref (ad u 4 0)), (5, .int w5), (6, .ref (ad t (pi + 1) 0)), (8, .int w8)]) hx hb dX3_play_60 hl (k := 4) rfl (by first | rfl | decide) (by decide) rfl (fun ls hl => ?_)
          refine lv_iinc (v := (w8 + (1 : Int32))) (lv' := [(8, .int (w8 + (1 : Int32))), (7, .int (w7 + (1 : Int32))), (0, .ref (ad t 0 0)), (3, .ref (ad u 4 0)), (5, .int w5), (6, .ref (ad t (pi + 1) 0))]) hx hb dX3_play_63 hl (k := 5) rfl (by first | rfl | decide) (by decide) rfl (fun ls hl => ?_)
          refine lv_goto (tgt := 30) hx hb dX3_play_66 (by decide) ?_
          exact ih30 _ _ _ _ _ _ _ hf hW (lv_sub hl [2, 3, 4, 5, 1, 0] rfl)
  exact L30 NF _ _ _ _ _ _ _ hf hW (lv_sub hl [3, 6, 8, 2, 1, 0] rfl)
def f3_playF_j69 (h : Sg) (w7 : Int32) (S : Ob) : Option (Int32 × Ob) :=
  ((f3_keepFromF S).bind (fun S20 => (some (w7, S20))))
def f3_playF_b30 (h : Sg) (rec30 : Int32 → Int32 → Int32 → Ob → Option (Int32 × Ob)) (w5 : Int32) (w7 : Int32) (w8 : Int32) (S : Ob) : Option (Int32 × Ob) :=
  (if w5 ≤ w8 then (f3_playF_j69 h w7 S) else ((f9_keyAt h w8).bind (fun r10 => (rd 300 (S 0 2) w8 (fun v13 => (b2 (f2_asks r10 w8 v13 S) (fun r16 S15 => (if r16 = 0 then (rec30 w5 w7 (w8 + (1 : Int32)) S15) else (rec30 w5 (w7 + (1 : Int32)) (w8 + (1 : Int32)) S15)))))))))
def f3_playF_l30 (h : Sg) : Nat → Int32 → Int32 → Int32 → Ob → Option (Int32 × Ob)
  | 0 => fun _ _ _ _ => none
  | k + 1 => f3_playF_b30 h (f3_playF_l30 h k)
def f3_playF (h : Sg) (a1 : Int32) (a2 : Int32) (a4 : Int32) (a5 : Int32) (S : Ob) : Option (Int32 × Ob) :=
  (ck 6 a1 ((f3_lookAhead h a4 a5 S).bind (fun S3 => ((f2_begin a2 S3).bind (fun S6 => (f3_playF_l30 h NF a5 (0 : Int32) a4 S6))))))
set_option maxHeartbeats 4000000 in
set_option maxRecDepth 100000 in
theorem f3_playF_ok (l : Launch) (D : va_G) (cy : Nat → ClassId) (ad : Nat → Nat → Nat → Nat) (ns : List (Nat × Nat × Nat)) (M : Me) (t : Nat) (hI : IsPl cy ad ns t) (u : Nat) (hne : u ≠ t) (hT : IsTrace cy ad ns u 4) (h : Sg) (hO : M u 4 = h) (S : Ob) (a1 : Int32) (a2 : Int32) (a4 : Int32) (a5 : Int32) (r : Int32) (m2 : Ob)  (hp : a1.toNatClampNeg = 5) (hf : f3_playF h a1 a2 a4 a5 S = some (r, m2)) : CxI l yX3_play (.code yX3_play cX3_play 9 (some .int) :: tk_tb) { frames := 5, cells := 0, slots := 0, locals := 119 } D cy ad ns [.ref (ad t 0 0), .int a1, .int a2, .ref (ad u 4 0), .int a4, .int a5] (va_up M t S) r (va_up M t m2) := by
  refine CxI.of (by decide) (Nat.le_of_ble_eq_true rfl) ?_
  intro p e s m below meth c ls hE hX hW hl
  obtain ⟨hx, hb, hr, hml, hown, hts, hlk, hK⟩ := hE
  have hA : ∀ q : Nat, s.heap.size ≤ q → Aw ad ns s.heap.size q := fun q h => Or.inr h
  have hl : lv_has ls 9 [(0, .ref (ad t 0 0)), (1, .int a1), (2, .int a2), (3, .ref (ad u 4 0)), (4, .int a4), (5, .int a5)] := hl
  unfold f3_playF at hf
  have J69 : ∀ (w7 : Int32) (S : Ob) (H : Heap) (locs : List Loc) (ls : Array Slot), f3_playF_j69 h w7 S = some (r, m2) → Wl D cy ad ns (Aw ad ns s.heap.size) s.heap (va_up M t S) H locs → lv_has ls 9 [(0, .ref (ad t 0 0)), (6, .ref (ad t 6 0)), (7, .int w7)] → W p l e { frames := 5, cells := 0, slots := 0, locals := 119 } s m ([.ref (ad t 0 0), .int a1, .int a2, .ref (ad u 4 0), .int a4, .int a5] : List Value).toArray below meth c H locs 0 0 (QI below D cy ad ns [.ref (ad t 0 0), .int a1, .int a2, .ref (ad u 4 0), .int a4, .int a5] s r (va_up M t m2)) (F0 m 69 ls []) := by
    intro w7 S H locs ls hf hW hl
    unfold f3_playF_j69 at hf
    refine lv_aload_n hx hb dX3_play_69 rfl (lv_at hl 0 rfl) ?_
    refine lv_aload hx hb dX3_play_70 (lv_at hl 1 rfl) ?_
    obtain ⟨S20, hc19, hf⟩ := bd_some hf
    have hC21 := f3_keepFromF_ok l D cy ad ns M t hI S S20 hc19
    refine x_vxv (n := 1) (As := [.ref (ad t 6 0)]) (rest := []) hx hb hml hts hown hK hX hW hA hC21 (hI.2 0 0 (by decide)) up_io (hI.1 0 0 _) rfl rfl t_645 t_647 p_23 t_2 t_648 rfl (by decide +kernel) rfl rfl ⟨Nat.le_of_ble_eq_true rfl, Nat.le_of_ble_eq_true rfl⟩ hl.1 rfl (lv_room (Nat.le_of_ble_eq_true rfl)) dX3_play_72 ⟨(Nat.le_of_ble_eq_true rfl), (Nat.le_of_ble_eq_true rfl)⟩ (fun H locs hW => ?_)
    refine lv_iload hx hb dX3_play_75 (lv_at hl 2 rfl) ?_
    exact x_iret hx hb hr hlk hK hW (congrArg Prod.fst (Option.some.inj hf)) (congrArg (fun q => (va_up M t (Prod.snd q))) (Option.some.inj hf)) dX3_play_77
  refine lv_aload_n hx hb dX3_play_0 rfl (lv_at hl 0 rfl) ?_
  refine x_get hx hb hts hown hK hW (hI.2 0 0 (by decide)) up_io (hI.1 0 0 _) rfl inX3 0 (by decide) t_132 rfl dX3_play_1 ?_
  refine lv_iload_n hx hb dX3_play_4 rfl (lv_at hl 1 rfl) ?_
  obtain ⟨hi1, hf⟩ := ck_some hf
  refine x_aalp hx hb hK hW (hI.2 0 1 (by decide)) up_io (hI.1 0 1 _) hi1 dX3_play_5 ?_
  rw [hp]
  refine lv_astore (lv' := [(6, .ref (ad t 6 0)), (0, .ref (ad t 0 0)), (1, .int a1), (2, .int a2), (3, .ref (ad u 4 0)), (4, .int a4), (5, .int a5)]) hx hb dX3_play_6 hl (by decide) rfl (fun ls hl => ?_)
  refine lv_aload_n hx hb dX3_play_8 rfl (lv_at hl 1 rfl) ?_
  refine lv_aload_n hx hb dX3_play_9 rfl (lv_at hl 4 rfl) ?_
  refine lv_iload hx hb dX3_play_10 (lv_at hl 5 rfl) ?_
  refine lv_iload hx hb dX3_play_12 (lv_at hl 6 rfl) ?_
  obtain ⟨S3, hc2, hf⟩ := bd_some hf
  have hC4 := f3_lookAhead_ok l D cy ad ns M t hI u hne hT h hO S a4 a5 S3 hc2
  refine x_vv (n := 3) (As := [.ref (ad u 4 0), .int a4, .int a5]) (rest := []) hx hb hml hts hown hK hW hA hC4 (hI.2 0 0 (by decide)) up_io (hI.1 0 0 _) rfl rfl t_567 t_569 p_14 t_2 t_570 rfl (by decide +kernel) rfl rfl ⟨Nat.le_of_ble_eq_true rfl, Nat.le_of_ble_eq_true rfl⟩ hl.1 rfl (lv_room (Nat.le_of_ble_eq_true rfl)) dX3_play_14 ⟨(Nat.le_of_ble_eq_true rfl), (Nat.le_of_ble_eq_true rfl)⟩ (fun H locs hW => ?_)
  refine lv_aload hx hb dX3_play_17 (lv_at hl 0 rfl) ?_
  refine lv_iload_n hx hb dX3_play_19 rfl (lv_at hl 3 rfl) ?_
  obtain ⟨S6, hc5, hf⟩ := bd_some hf
  have hC7 := f2_begin_ok l D cy ad ns M t hI S3 a2 S6 hc5
  refine x_uv (x := ⟨"SketchCache$Policy", "begin", "(I)V"⟩) (y := yX2_begin) (n := 1) (As := [.int a2]) (rest := []) hx hb hml hts hown hK (xw_574 hX) hW hA hC7 (hI.2 6 0 (by decide)) up_io (hI.1 6 0 _) rfl rfl t_573 t_575 t_576 t_577 t_5 t_578 rfl (by decide +kernel) rfl rfl ⟨Nat.le_of_ble_eq_true rfl, Nat.le_of_ble_eq_true rfl⟩ hl.1 rfl (lv_room (Nat.le_of_ble_eq_true rfl)) dX3_play_20 ⟨(Nat.le_of_ble_eq_true rfl), (Nat.le_of_ble_eq_true rfl)⟩ (fun H locs hW => ?_)
  refine lv_iconst (v := 0) hx hb dX3_play_23 (by decide) ?_
  refine lv_istore (lv' := [(7, .int (0 : Int32)), (6, .ref (ad t 6 0)), (0, .ref (ad t 0 0)), (1, .int a1), (2, .int a2), (3, .ref (ad u 4 0)), (4, .int a4), (5, .int a5)]) hx hb dX3_play_24 hl (by decide) rfl (fun ls hl => ?_)
  refine lv_iload hx hb dX3_play_26 (lv_at hl 6 rfl) ?_
  refine lv_istore (lv' := [(8, .int a4), (7, .int (0 : Int32)), (6, .ref (ad t 6 0)), (0, .ref (ad t 0 0)), (1, .int a1), (2, .int a2), (3, .ref (ad u 4 0)), (4, .int a4), (5, .int a5)]) hx hb dX3_play_28 hl (by decide) rfl (fun ls hl => ?_)
  have L30 : ∀ (k : Nat) (w5 : Int32) (w7 : Int32) (w8 : Int32) (S : Ob) (H : Heap) (locs : List Loc) (ls : Array Slot), f3_playF_l30 h k w5 w7 w8 S = some (r, m2) → Wl D cy ad ns (Aw ad ns s.heap.size) s.heap (va_up M t S) H locs → lv_has ls 9 [(0, .ref (ad t 0 0)), (3, .ref (ad u 4 0)), (5, .int w5), (6, .ref (ad t 6 0)), (7, .int w7), (8, .int w8)] → W p l e { frames := 5, cells := 0, slots := 0, locals := 119 } s m ([.ref (ad t 0 0), .int a1, .int a2, .ref (ad u 4 0), .int a4, .int a5] : List Value).toArray below meth c H locs 0 0 (QI below D cy ad ns [.ref (ad t 0 0), .int a1, .int a2, .ref (ad u 4 0), .int a4, .int a5] s r (va_up M t m2)) (F0 m 30 ls []) := by
    intro k
    induction k with
    | zero => intro w5 w7 w8 S H locs ls hf; exact absurd hf (by simp [f3_playF_l30])
    | succ k30 ih30 =>
      intro w5 w7 w8 S H locs ls hf hW hl
      have hf : f3_playF_b30 h (f3_playF_l30 h k30) w5 w7 w8 S = some (r, m2) := hf
      unfold f3_playF_b30 at hf
      refine lv_iload hx hb dX3_play_30 (lv_at hl 5 rfl) ?_
      refine lv_iload hx hb dX3_play_32 (lv_at hl 2 rfl) ?_
      refine lv_icmp_ge (tgt := 69) hx hb dX3_play_34 (by decide) (fun c8 => ?_) (fun c8 => ?_)
      · replace hf := (if_pos c8).symm.trans hf
        exact J69 _ _ _ _ _ hf hW (lv_sub hl [0, 3, 4] rfl)
      · replace hf := (if_neg c8).symm.trans hf
        refine lv_aload hx hb dX3_play_37 (lv_at hl 3 rfl) ?_
        refine lv_aload_n hx hb dX3_play_39 rfl (lv_at hl 1 rfl) ?_
        refine lv_iload hx hb dX3_play_40 (lv_at hl 5 rfl) ?_
        obtain ⟨r10, hc9, hf⟩ := bd_some hf
        have hC11 := f9_keyAt_ok l D cy ad ns (va_up M t S) u 4 hT h w8 r10 hc9
        rw [uI_same (up_tr2 hne hO)] at hC11
        refine x_vi (n := 1) (As := [.int w8]) (rest := [.ref (ad t 6 0)]) hx hb hml hts hown hK hW hA hC11 (hT.2 0 (by decide)) (up_tr hne hO) (hT.1 0 _) rfl rfl t_572 t_556 t_557 t_10 t_558 rfl (by decide +kernel) rfl rfl ⟨Nat.le_of_ble_eq_true rfl, Nat.le_of_ble_eq_true rfl⟩ hl.1 rfl (lv_room (Nat.le_of_ble_eq_true rfl)) dX3_play_42 ⟨(Nat.le_of_ble_eq_true rfl), (Nat.le_of_ble_eq_true rfl)⟩ (fun H locs hW => ?_)
        refine lv_iload hx hb dX3_play_45 (lv_at hl 5 rfl) ?_
        refine lv_aload_n hx hb dX3_play_47 rfl (lv_at hl 0 rfl) ?_
        refine x_get hx hb hts hown hK hW (hI.2 0 0 (by decide)) up_io (hI.1 0 0 _) rfl inX3 1 (by decide) t_133 rfl dX3_play_48 ?_
        refine lv_iload hx hb dX3_play_51 (lv_at hl 5 rfl) ?_
        obtain ⟨hi12, hf⟩ := rd_some hf
        refine x_iald hx hb hK hW (hI.2 0 2 (by decide)) up_io (hI.1 0 2 _) hi12 dX3_play_53 ?_
        generalize S 0 2 (w8).toNatClampNeg = v13 at hf ⊢
        obtain ⟨r16, S15, hc14, hf⟩ := b2_some hf
        have hC17 := f2_asks_ok l D cy ad ns M t hI S r10 w8 v13 r16 S15 hc14
        refine x_ui (x := ⟨"SketchCache$Policy", "asks", "(III)Z"⟩) (y := yX2_asks) (n := 3) (As := [.int r10, .int w8, .int v13]) (rest := []) hx hb hml hts hown hK (xw_589 hX) hW hA hC17 (hI.2 6 0 (by decide)) up_io (hI.1 6 0 _) rfl rfl t_588 t_590 t_591 t_592 t_5 t_593 rfl (by decide +kernel) rfl rfl ⟨Nat.le_of_ble_eq_true rfl, Nat.le_of_ble_eq_true rfl⟩ hl.1 rfl (lv_room (Nat.le_of_ble_eq_true rfl)) dX3_play_54 ⟨(Nat.le_of_ble_eq_true rfl), (Nat.le_of_ble_eq_true rfl)⟩ (fun H locs hW => ?_)
        refine lv_if_eq (tgt := 63) hx hb dX3_play_57 (by decide) (fun c18 => ?_) (fun c18 => ?_)
        · replace hf := (if_pos c18).symm.trans hf
          refine lv_iinc (v := (w8 + (1 : Int32))) (lv' := [(8, .int (w8 + (1 : Int32))), (0, .ref (ad t 0 0)), (3, .ref (ad u 4 0)), (5, .int w5), (6, .ref (ad t 6 0)), (7, .int w7)]) hx hb dX3_play_63 hl (k := 5) rfl (by first | rfl | decide) (by decide) rfl (fun ls hl => ?_)
          refine lv_goto (tgt := 30) hx hb dX3_play_66 (by decide) ?_
          exact ih30 _ _ _ _ _ _ _ hf hW (lv_sub hl [1, 2, 3, 4, 5, 0] rfl)
        · replace hf := (if_neg c18).symm.trans hf
          refine lv_iinc (v := (w7 + (1 : Int32))) (lv' := [(7, .int (w7 + (1 : Int32))), (0, .ref (ad t 0 0)), (3, .ref (ad u 4 0)), (5, .int w5), (6, .ref (ad t 6 0)), (8, .int w8)]) hx hb dX3_play_60 hl (k := 4) rfl (by first | rfl | decide) (by decide) rfl (fun ls hl => ?_)
          refine lv_iinc (v := (w8 + (1 : Int32))) (lv' := [(8, .int (w8 + (1 : Int32))), (7, .int (w7 + (1 : Int32))), (0, .ref (ad t 0 0)), (3, .ref (ad u 4 0)), (5, .int w5), (6, .ref (ad t 6 0))]) hx hb dX3_play_63 hl (k := 5) rfl (by first | rfl | decide) (by decide) rfl (fun ls hl => ?_)
          refine lv_goto (tgt := 30) hx hb dX3_play_66 (by decide) ?_
          exact ih30 _ _ _ _ _ _ _ hf hW (lv_sub hl [2, 3, 4, 5, 1, 0] rfl)
  exact L30 NF _ _ _ _ _ _ _ hf hW (lv_sub hl [3, 6, 8, 2, 1, 0] rfl)
def f10_rule (a1 : Int32) (a2 : Int32) (M : Me) : Option (Int32 × Me) :=
  (if a1 < 0 then (some ((-2 : Int32), M)) else (if (6 : Int32) ≤ a1 then (some ((-2 : Int32), M)) else (if a1 < (6 : Int32) then (rd 6 lrF a1 (fun v5 => (if a2 < v5 then (some ((-2 : Int32), M)) else (rd 6 mrF a1 (fun v8 => (if a2 ≤ v8 then (b2 (f8_tellRule a1 a2 (M 0)) (fun r13 S11 => (st (va_up M 0 S11) (fun M12 => (some (r13, M12)))))) else (some ((-2 : Int32), M)))))))) else (some ((-2 : Int32), M)))))
set_option maxHeartbeats 4000000 in
set_option maxRecDepth 100000 in
theorem f10_rule_ok (l : Launch) (D : va_G) (cy : Nat → ClassId) (ad : Nat → Nat → Nat → Nat) (ns : List (Nat × Nat × Nat)) (hI0 : IsSt cy ad ns 0) (hI5 : IsPl cy ad ns 5) (hI6 : IsMain cy ad ns 6 0) (M : Me) (a1 : Int32) (a2 : Int32) (r : Int32) (m2 : Me)  (hf : f10_rule a1 a2 M = some (r, m2)) : CxI l yX10_rule (.code yX10_rule cX10_rule 3 (some .int) :: tk_tb) { frames := 4, cells := 0, slots := 0, locals := 89 } D cy ad ns [.ref (ad 6 0 0), .int a1, .int a2] M r m2 := by
  refine CxI.of (by decide) (Nat.le_of_ble_eq_true rfl) ?_
  intro p e s m below meth c ls hE hX hW hl
  obtain ⟨hx, hb, hr, hml, hown, hts, hlk, hK⟩ := hE
  obtain ⟨-, -, ⟨tl, hZl, hTl⟩, tm, hZm, hTm⟩ := id hX
  have hA : ∀ q : Nat, s.heap.size ≤ q → Aw ad ns s.heap.size q := fun q h => Or.inr h
  have hl : lv_has ls 3 [(0, .ref (ad 6 0 0)), (1, .int a1), (2, .int a2)] := hl
  unfold f10_rule at hf
  refine lv_iload_n hx hb dX10_rule_0 rfl (lv_at hl 1 rfl) ?_
  refine lv_if_lt (tgt := 20) hx hb dX10_rule_1 (by decide) (fun c1 => ?_) (fun c1 => ?_)
  · replace hf := (if_pos c1).symm.trans hf
    refine lv_bipush (v := -2) hx hb dX10_rule_20 (by decide) ?_
    exact x_iret hx hb hr hlk hK hW (congrArg Prod.fst (Option.some.inj hf)) (congrArg (fun q => (Prod.snd q)) (Option.some.inj hf)) dX10_rule_22
  · replace hf := (if_neg c1).symm.trans hf
    refine lv_iload_n hx hb dX10_rule_4 rfl (lv_at hl 1 rfl) ?_
    refine va_gets hx hb hZl hW.2.2 hown (hts _ t_350) (fun _ h9 => h9) dX10_rule_5 ?_
    refine va_tlen (v := 6) hx hb hTl hW.2.2 rfl dX10_rule_8 ?_
    refine lv_icmp_ge (tgt := 20) hx hb dX10_rule_9 (by decide) (fun c2 => ?_) (fun c2 => ?_)
    · replace hf := (if_pos c2).symm.trans hf
      refine lv_bipush (v := -2) hx hb dX10_rule_20 (by decide) ?_
      exact x_iret hx hb hr hlk hK hW (congrArg Prod.fst (Option.some.inj hf)) (congrArg (fun q => (Prod.snd q)) (Option.some.inj hf)) dX10_rule_22
    · replace hf := (if_neg c2).symm.trans hf
      refine lv_iload_n hx hb dX10_rule_12 rfl (lv_at hl 1 rfl) ?_
      refine va_gets hx hb hZm hW.2.2 hown (hts _ t_352) (fun _ h9 => h9) dX10_rule_13 ?_
      refine va_tlen (v := 6) hx hb hTm hW.2.2 rfl dX10_rule_16 ?_
      refine lv_icmp_lt (tgt := 23) hx hb dX10_rule_17 (by decide) (fun c3 => ?_) (fun c3 => ?_)
      · replace hf := (if_pos c3).symm.trans hf
        refine lv_iload_n hx hb dX10_rule_23 rfl (lv_at hl 2 rfl) ?_
        refine va_gets hx hb hZl hW.2.2 hown (hts _ t_350) (fun _ h9 => h9) dX10_rule_24 ?_
        refine lv_iload_n hx hb dX10_rule_27 rfl (lv_at hl 1 rfl) ?_
        obtain ⟨hi4, hf⟩ := rd_some hf
        refine va_ti hx hb hTl hW.2.2 hi4 rfl dX10_rule_28 ?_
        generalize lrF (a1).toNatClampNeg = v5 at hf ⊢
        refine lv_icmp_lt (tgt := 41) hx hb dX10_rule_29 (by decide) (fun c6 => ?_) (fun c6 => ?_)
        · replace hf := (if_pos c6).symm.trans hf
          refine lv_bipush (v := -2) hx hb dX10_rule_41 (by decide) ?_
          exact x_iret hx hb hr hlk hK hW (congrArg Prod.fst (Option.some.inj hf)) (congrArg (fun q => (Prod.snd q)) (Option.some.inj hf)) dX10_rule_43
        · replace hf := (if_neg c6).symm.trans hf
          refine lv_iload_n hx hb dX10_rule_32 rfl (lv_at hl 2 rfl) ?_
          refine va_gets hx hb hZm hW.2.2 hown (hts _ t_352) (fun _ h9 => h9) dX10_rule_33 ?_
          refine lv_iload_n hx hb dX10_rule_36 rfl (lv_at hl 1 rfl) ?_
          obtain ⟨hi7, hf⟩ := rd_some hf
          refine va_ti hx hb hTm hW.2.2 hi7 rfl dX10_rule_37 ?_
          generalize mrF (a1).toNatClampNeg = v8 at hf ⊢
          refine lv_icmp_le (tgt := 44) hx hb dX10_rule_38 (by decide) (fun c9 => ?_) (fun c9 => ?_)
          · replace hf := (if_pos c9).symm.trans hf
            refine lv_aload_n hx hb dX10_rule_44 rfl (lv_at hl 0 rfl) ?_
            refine x_get hx hb hts hown hK hW (hI6.2 0 (by decide)) rfl (hI6.1 0 _) rfl inX10 3 (by decide) t_306 rfl dX10_rule_45 ?_
            refine lv_iload_n hx hb dX10_rule_48 rfl (lv_at hl 1 rfl) ?_
            refine lv_iload_n hx hb dX10_rule_49 rfl (lv_at hl 2 rfl) ?_
            obtain ⟨r13, S11, hc10, hf⟩ := b2_some hf
            replace hf := st_some hf
            have hC14 := f8_tellRule_ok l D cy ad ns M 0 hI0 (M 0) a1 a2 r13 S11 hc10
            rw [up_id] at hC14
            refine x_vi (n := 2) (As := [.int a1, .int a2]) (rest := []) hx hb hml hts hown hK hW hA hC14 (hI0.2 0 0 (by decide)) rfl (hI0.1 0 0 _) rfl rfl t_354 t_355 t_356 t_9 t_357 rfl (by decide +kernel) rfl rfl ⟨Nat.le_of_ble_eq_true rfl, Nat.le_of_ble_eq_true rfl⟩ hl.1 rfl (lv_room (Nat.le_of_ble_eq_true rfl)) dX10_rule_50 ⟨(Nat.le_of_ble_eq_true rfl), (Nat.le_of_ble_eq_true rfl)⟩ (fun H locs hW => ?_)
            generalize (va_up M 0 S11) = M12 at hf hW
            exact x_iret hx hb hr hlk hK hW (congrArg Prod.fst (Option.some.inj hf)) (congrArg (fun q => (Prod.snd q)) (Option.some.inj hf)) dX10_rule_53
          · replace hf := (if_neg c9).symm.trans hf
            refine lv_bipush (v := -2) hx hb dX10_rule_41 (by decide) ?_
            exact x_iret hx hb hr hlk hK hW (congrArg Prod.fst (Option.some.inj hf)) (congrArg (fun q => (Prod.snd q)) (Option.some.inj hf)) dX10_rule_43
      · replace hf := (if_neg c3).symm.trans hf
        refine lv_bipush (v := -2) hx hb dX10_rule_20 (by decide) ?_
        exact x_iret hx hb hr hlk hK hW (congrArg Prod.fst (Option.some.inj hf)) (congrArg (fun q => (Prod.snd q)) (Option.some.inj hf)) dX10_rule_22
def f10_kept (M : Me) (a1 : Int32) : Option Int32 :=
  ((f3_keptAt (M 5) a1).bind (fun r2 => (some r2)))
set_option maxHeartbeats 4000000 in
set_option maxRecDepth 100000 in
theorem f10_kept_ok (l : Launch) (D : va_G) (cy : Nat → ClassId) (ad : Nat → Nat → Nat → Nat) (ns : List (Nat × Nat × Nat)) (hI0 : IsSt cy ad ns 0) (hI5 : IsPl cy ad ns 5) (hI6 : IsMain cy ad ns 6 0) (M : Me) (a1 : Int32) (r : Int32)  (hf : f10_kept M a1 = some r) : Ci l yX10_kept (.code yX10_kept cX10_kept 2 (some .int) :: tk_tb) { frames := 1, cells := 0, slots := 0, locals := 21 } D cy ad ns [.ref (ad 6 0 0), .int a1] M r M := by
  refine Ci.of (by decide) (Nat.le_of_ble_eq_true rfl) ?_
  intro p e s m below meth c ls hE hW hl
  obtain ⟨hx, hb, hr, hml, hown, hts, hlk, hK⟩ := hE
  have hA : ∀ q : Nat, s.heap.size ≤ q → Aw ad ns s.heap.size q := fun q h => Or.inr h
  have hl : lv_has ls 2 [(0, .ref (ad 6 0 0)), (1, .int a1)] := hl
  unfold f10_kept at hf
  refine lv_aload_n hx hb dX10_kept_0 rfl (lv_at hl 0 rfl) ?_
  refine x_get hx hb hts hown hK hW (hI6.2 0 (by decide)) rfl (hI6.1 0 _) rfl inX10 5 (by decide) t_308 rfl dX10_kept_1 ?_
  refine lv_iload_n hx hb dX10_kept_4 rfl (lv_at hl 1 rfl) ?_
  obtain ⟨r2, hc1, hf⟩ := bd_some hf
  have hC3 := f3_keptAt_ok l D cy ad ns M 5 hI5 (M 5) a1 r2 hc1
  rw [up_id] at hC3
  refine x_vi (n := 1) (As := [.int a1]) (rest := []) hx hb hml hts hown hK hW hA hC3 (hI5.2 0 0 (by decide)) rfl (hI5.1 0 0 _) rfl rfl t_662 t_663 t_664 t_2 t_665 rfl (by decide +kernel) rfl rfl ⟨Nat.le_of_ble_eq_true rfl, Nat.le_of_ble_eq_true rfl⟩ hl.1 rfl (lv_room (Nat.le_of_ble_eq_true rfl)) dX10_kept_5 ⟨(Nat.le_of_ble_eq_true rfl), (Nat.le_of_ble_eq_true rfl)⟩ (fun H locs hW => ?_)
  exact x_iret hx hb hr hlk hK hW (Option.some.inj hf) rfl dX10_kept_8
