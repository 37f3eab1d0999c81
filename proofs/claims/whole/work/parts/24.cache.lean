def f0_tellMode (a1 : Int32) (S : Ob) : Option (Int32 × Ob) :=
  (st (va_up S 1 (va_up (S 1) 0 (upd (S 1 0) 3 a1))) (fun S1 => (some ((S 1 0 3), S1))))
set_option maxHeartbeats 4000000 in
set_option maxRecDepth 100000 in
theorem f0_tellMode_ok (l : Launch) (D : va_G) (cy : Nat → ClassId) (ad : Nat → Nat → Nat → Nat) (ns : List (Nat × Nat × Nat)) (M : Me) (t : Nat) (hI : IsSt cy ad ns t) (S : Ob) (a1 : Int32) (r : Int32) (m2 : Ob)  (hf : f0_tellMode a1 S = some (r, m2)) : Ci l yX0_tellMode (.code yX0_tellMode cX0_tellMode 3 (some .int) :: tk_tb) { frames := 0, cells := 0, slots := 0, locals := 0 } D cy ad ns [.ref (ad t 1 0), .int a1] (va_up M t S) r (va_up M t m2) := by
  refine Ci.of (by decide) (Nat.le_of_ble_eq_true rfl) ?_
  intro p e s m below meth c ls hE hW hl
  obtain ⟨hx, hb, hr, hml, hown, hts, hlk, hK⟩ := hE
  have hA : ∀ q : Nat, s.heap.size ≤ q → Aw ad ns s.heap.size q := fun q h => Or.inr h
  have hl : lv_has ls 3 [(0, .ref (ad t 1 0)), (1, .int a1)] := hl
  unfold f0_tellMode at hf
  refine lv_aload_n hx hb dX0_tellMode_0 rfl (lv_at hl 0 rfl) ?_
  refine x_get hx hb hts hown hK hW (hI.2 1 0 (by decide)) up_io (hI.1 1 0 _) rfl inX0 3 (by decide) t_266 rfl dX0_tellMode_1 ?_
  refine lv_istore_n (lv' := [(2, .int (S 1 0 3)), (0, .ref (ad t 1 0)), (1, .int a1)]) hx hb dX0_tellMode_4 rfl hl (by decide) rfl (fun ls hl => ?_)
  refine lv_aload_n hx hb dX0_tellMode_5 rfl (lv_at hl 1 rfl) ?_
  refine lv_iload_n hx hb dX0_tellMode_6 rfl (lv_at hl 2 rfl) ?_
  replace hf := st_some hf
  refine x_put hx hb hts hown hK hW (hI.2 1 0 (by decide)) up_io (hI.1 1 0 _) rfl inX0 tyX0 tyX0_ok nmX0 3 (by decide) t_266 rfl rfl (Nat.le_of_ble_eq_true rfl) (hI.1 1 0 _) uC_grp dX0_tellMode_7 (fun H locs hW => ?_)
  generalize (va_up S 1 (va_up (S 1) 0 (upd (S 1 0) 3 a1))) = S1 at hf hW
  refine lv_iload_n hx hb dX0_tellMode_10 rfl (lv_at hl 0 rfl) ?_
  exact x_iret hx hb hr hlk hK hW (congrArg Prod.fst (Option.some.inj hf)) (congrArg (fun q => (va_up M t (Prod.snd q))) (Option.some.inj hf)) dX0_tellMode_11
def f0_protectedLimit (S : Ob) : Option Int32 :=
  (some ((((S 1 0 2) - (S 1 0 4)) * (4 : Int32)) / (5 : Int32)))
set_option maxHeartbeats 4000000 in
set_option maxRecDepth 100000 in
theorem f0_protectedLimit_ok (l : Launch) (D : va_G) (cy : Nat → ClassId) (ad : Nat → Nat → Nat → Nat) (ns : List (Nat × Nat × Nat)) (M : Me) (t : Nat) (hI : IsSt cy ad ns t) (S : Ob) (r : Int32)  (hf : f0_protectedLimit S = some r) : Ci l yX0_protectedLimit (.code yX0_protectedLimit cX0_protectedLimit 1 (some .int) :: tk_tb) { frames := 0, cells := 0, slots := 0, locals := 0 } D cy ad ns [.ref (ad t 1 0)] (va_up M t S) r (va_up M t S) := by
  refine Ci.of (by decide) (Nat.le_of_ble_eq_true rfl) ?_
  intro p e s m below meth c ls hE hW hl
  obtain ⟨hx, hb, hr, hml, hown, hts, hlk, hK⟩ := hE
  have hA : ∀ q : Nat, s.heap.size ≤ q → Aw ad ns s.heap.size q := fun q h => Or.inr h
  have hl : lv_has ls 1 [(0, .ref (ad t 1 0))] := hl
  unfold f0_protectedLimit at hf
  refine lv_aload_n hx hb dX0_protectedLimit_0 rfl (lv_at hl 0 rfl) ?_
  refine x_get hx hb hts hown hK hW (hI.2 1 0 (by decide)) up_io (hI.1 1 0 _) rfl inX0 2 (by decide) t_265 rfl dX0_protectedLimit_1 ?_
  refine lv_aload_n hx hb dX0_protectedLimit_4 rfl (lv_at hl 0 rfl) ?_
  refine x_get hx hb hts hown hK hW (hI.2 1 0 (by decide)) up_io (hI.1 1 0 _) rfl inX0 4 (by decide) t_267 rfl dX0_protectedLimit_5 ?_
  refine lv_isub hx hb dX0_protectedLimit_8 ?_
  refine lv_iconst (v := 4) hx hb dX0_protectedLimit_9 (by decide) ?_
  refine lv_imul hx hb dX0_protectedLimit_10 ?_
  refine lv_iconst (v := 5) hx hb dX0_protectedLimit_11 (by decide) ?_
  refine lv_idiv hx hb dX0_protectedLimit_12 (by decide) ?_
  exact x_iret hx hb hr hlk hK hW (Option.some.inj hf) rfl dX0_protectedLimit_13
def f0_keysInMain (S : Ob) : Option Int32 :=
  (rd 3 (S 3 2) (1 : Int32) (fun v2 => (rd 3 (S 3 2) (2 : Int32) (fun v4 => (some (v2 + v4))))))
set_option maxHeartbeats 4000000 in
set_option maxRecDepth 100000 in
theorem f0_keysInMain_ok (l : Launch) (D : va_G) (cy : Nat → ClassId) (ad : Nat → Nat → Nat → Nat) (ns : List (Nat × Nat × Nat)) (M : Me) (t : Nat) (hI : IsSt cy ad ns t) (S : Ob) (r : Int32)  (hf : f0_keysInMain S = some r) : Ci l yX0_keysInMain (.code yX0_keysInMain cX0_keysInMain 1 (some .int) :: tk_tb) { frames := 0, cells := 0, slots := 0, locals := 0 } D cy ad ns [.ref (ad t 1 0)] (va_up M t S) r (va_up M t S) := by
  refine Ci.of (by decide) (Nat.le_of_ble_eq_true rfl) ?_
  intro p e s m below meth c ls hE hW hl
  obtain ⟨hx, hb, hr, hml, hown, hts, hlk, hK⟩ := hE
  have hA : ∀ q : Nat, s.heap.size ≤ q → Aw ad ns s.heap.size q := fun q h => Or.inr h
  have hl : lv_has ls 1 [(0, .ref (ad t 1 0))] := hl
  unfold f0_keysInMain at hf
  refine lv_aload_n hx hb dX0_keysInMain_0 rfl (lv_at hl 0 rfl) ?_
  refine x_get hx hb hts hown hK hW (hI.2 1 0 (by decide)) up_io (hI.1 1 0 _) rfl inX0 1 (by decide) t_262 rfl dX0_keysInMain_1 ?_
  refine x_get hx hb hts hown hK hW (hI.2 3 0 (by decide)) up_io (hI.1 3 0 _) rfl inX5 1 (by decide) t_99 rfl dX0_keysInMain_4 ?_
  refine lv_iconst (v := 1) hx hb dX0_keysInMain_7 (by decide) ?_
  obtain ⟨hi1, hf⟩ := rd_some hf
  refine x_iald hx hb hK hW (hI.2 3 2 (by decide)) up_io (hI.1 3 2 _) hi1 dX0_keysInMain_8 ?_
  generalize S 3 2 ((1 : Int32)).toNatClampNeg = v2 at hf ⊢
  refine lv_aload_n hx hb dX0_keysInMain_9 rfl (lv_at hl 0 rfl) ?_
  refine x_get hx hb hts hown hK hW (hI.2 1 0 (by decide)) up_io (hI.1 1 0 _) rfl inX0 1 (by decide) t_262 rfl dX0_keysInMain_10 ?_
  refine x_get hx hb hts hown hK hW (hI.2 3 0 (by decide)) up_io (hI.1 3 0 _) rfl inX5 1 (by decide) t_99 rfl dX0_keysInMain_13 ?_
  refine lv_iconst (v := 2) hx hb dX0_keysInMain_16 (by decide) ?_
  obtain ⟨hi3, hf⟩ := rd_some hf
  refine x_iald hx hb hK hW (hI.2 3 2 (by decide)) up_io (hI.1 3 2 _) hi3 dX0_keysInMain_17 ?_
  generalize S 3 2 ((2 : Int32)).toNatClampNeg = v4 at hf ⊢
  refine lv_iadd hx hb dX0_keysInMain_18 ?_
  exact x_iret hx hb hr hlk hK hW (Option.some.inj hf) rfl dX0_keysInMain_19
def f0_keysThere (S : Ob) : Option Int32 :=
  (rd 3 (S 3 2) (0 : Int32) (fun v2 => ((f0_keysInMain S).bind (fun r4 => (some (v2 + r4))))))
set_option maxHeartbeats 4000000 in
set_option maxRecDepth 100000 in
theorem f0_keysThere_ok (l : Launch) (D : va_G) (cy : Nat → ClassId) (ad : Nat → Nat → Nat → Nat) (ns : List (Nat × Nat × Nat)) (M : Me) (t : Nat) (hI : IsSt cy ad ns t) (S : Ob) (r : Int32)  (hf : f0_keysThere S = some r) : Ci l yX0_keysThere (.code yX0_keysThere cX0_keysThere 1 (some .int) :: tk_tb) { frames := 1, cells := 0, slots := 0, locals := 20 } D cy ad ns [.ref (ad t 1 0)] (va_up M t S) r (va_up M t S) := by
  refine Ci.of (by decide) (Nat.le_of_ble_eq_true rfl) ?_
  intro p e s m below meth c ls hE hW hl
  obtain ⟨hx, hb, hr, hml, hown, hts, hlk, hK⟩ := hE
  have hA : ∀ q : Nat, s.heap.size ≤ q → Aw ad ns s.heap.size q := fun q h => Or.inr h
  have hl : lv_has ls 1 [(0, .ref (ad t 1 0))] := hl
  unfold f0_keysThere at hf
  refine lv_aload_n hx hb dX0_keysThere_0 rfl (lv_at hl 0 rfl) ?_
  refine x_get hx hb hts hown hK hW (hI.2 1 0 (by decide)) up_io (hI.1 1 0 _) rfl inX0 1 (by decide) t_262 rfl dX0_keysThere_1 ?_
  refine x_get hx hb hts hown hK hW (hI.2 3 0 (by decide)) up_io (hI.1 3 0 _) rfl inX5 1 (by decide) t_99 rfl dX0_keysThere_4 ?_
  refine lv_iconst (v := 0) hx hb dX0_keysThere_7 (by decide) ?_
  obtain ⟨hi1, hf⟩ := rd_some hf
  refine x_iald hx hb hK hW (hI.2 3 2 (by decide)) up_io (hI.1 3 2 _) hi1 dX0_keysThere_8 ?_
  generalize S 3 2 ((0 : Int32)).toNatClampNeg = v2 at hf ⊢
  refine lv_aload_n hx hb dX0_keysThere_9 rfl (lv_at hl 0 rfl) ?_
  obtain ⟨r4, hc3, hf⟩ := bd_some hf
  have hC5 := f0_keysInMain_ok l D cy ad ns M t hI S r4 hc3
  refine x_vi (n := 0) (As := []) (rest := [.int v2]) hx hb hml hts hown hK hW hA hC5 (hI.2 1 0 (by decide)) up_io (hI.1 1 0 _) rfl rfl t_462 t_464 p_10 t_12 t_465 rfl (by decide +kernel) rfl rfl ⟨Nat.le_of_ble_eq_true rfl, Nat.le_of_ble_eq_true rfl⟩ hl.1 rfl (lv_room (Nat.le_of_ble_eq_true rfl)) dX0_keysThere_10 ⟨(Nat.le_of_ble_eq_true rfl), (Nat.le_of_ble_eq_true rfl)⟩ (fun H locs hW => ?_)
  refine lv_iadd hx hb dX0_keysThere_13 ?_
  exact x_iret hx hb hr hlk hK hW (Option.some.inj hf) rfl dX0_keysThere_14
def f0_unitsInMain (S : Ob) : Option Int32 :=
  (rd 3 (S 3 3) (1 : Int32) (fun v2 => (rd 3 (S 3 3) (2 : Int32) (fun v4 => (some (v2 + v4))))))
set_option maxHeartbeats 4000000 in
set_option maxRecDepth 100000 in
theorem f0_unitsInMain_ok (l : Launch) (D : va_G) (cy : Nat → ClassId) (ad : Nat → Nat → Nat → Nat) (ns : List (Nat × Nat × Nat)) (M : Me) (t : Nat) (hI : IsSt cy ad ns t) (S : Ob) (r : Int32)  (hf : f0_unitsInMain S = some r) : Ci l yX0_unitsInMain (.code yX0_unitsInMain cX0_unitsInMain 1 (some .int) :: tk_tb) { frames := 0, cells := 0, slots := 0, locals := 0 } D cy ad ns [.ref (ad t 1 0)] (va_up M t S) r (va_up M t S) := by
  refine Ci.of (by decide) (Nat.le_of_ble_eq_true rfl) ?_
  intro p e s m below meth c ls hE hW hl
  obtain ⟨hx, hb, hr, hml, hown, hts, hlk, hK⟩ := hE
  have hA : ∀ q : Nat, s.heap.size ≤ q → Aw ad ns s.heap.size q := fun q h => Or.inr h
  have hl : lv_has ls 1 [(0, .ref (ad t 1 0))] := hl
  unfold f0_unitsInMain at hf
  refine lv_aload_n hx hb dX0_unitsInMain_0 rfl (lv_at hl 0 rfl) ?_
  refine x_get hx hb hts hown hK hW (hI.2 1 0 (by decide)) up_io (hI.1 1 0 _) rfl inX0 1 (by decide) t_262 rfl dX0_unitsInMain_1 ?_
  refine x_get hx hb hts hown hK hW (hI.2 3 0 (by decide)) up_io (hI.1 3 0 _) rfl inX5 2 (by decide) t_102 rfl dX0_unitsInMain_4 ?_
  refine lv_iconst (v := 1) hx hb dX0_unitsInMain_7 (by decide) ?_
  obtain ⟨hi1, hf⟩ := rd_some hf
  refine x_iald hx hb hK hW (hI.2 3 3 (by decide)) up_io (hI.1 3 3 _) hi1 dX0_unitsInMain_8 ?_
  generalize S 3 3 ((1 : Int32)).toNatClampNeg = v2 at hf ⊢
  refine lv_aload_n hx hb dX0_unitsInMain_9 rfl (lv_at hl 0 rfl) ?_
  refine x_get hx hb hts hown hK hW (hI.2 1 0 (by decide)) up_io (hI.1 1 0 _) rfl inX0 1 (by decide) t_262 rfl dX0_unitsInMain_10 ?_
  refine x_get hx hb hts hown hK hW (hI.2 3 0 (by decide)) up_io (hI.1 3 0 _) rfl inX5 2 (by decide) t_102 rfl dX0_unitsInMain_13 ?_
  refine lv_iconst (v := 2) hx hb dX0_unitsInMain_16 (by decide) ?_
  obtain ⟨hi3, hf⟩ := rd_some hf
  refine x_iald hx hb hK hW (hI.2 3 3 (by decide)) up_io (hI.1 3 3 _) hi3 dX0_unitsInMain_17 ?_
  generalize S 3 3 ((2 : Int32)).toNatClampNeg = v4 at hf ⊢
  refine lv_iadd hx hb dX0_unitsInMain_18 ?_
  exact x_iret hx hb hr hlk hK hW (Option.some.inj hf) rfl dX0_unitsInMain_19
def f0_settle_b15 (rec15 : Int32 → Int32 → Ob → Option Ob) (w1 : Int32) (w2 : Int32) (S : Ob) : Option Ob :=
  (if w2 ≤ 0 then (some S) else (rd 3 (S 3 3) (2 : Int32) (fun v8 => (if w1 < v8 then (ck 3 (2 : Int32) (rd 100 (S 3 (((2 : Int32)).toNatClampNeg + 6)) (0 : Int32) (fun v12 => ((f5_moveToLast 3 (1 : Int32) v12 (S 3)).bind (fun g14 => (st (va_up S 3 g14) (fun S15 => (rec15 w1 (w2 + (-1 : Int32)) S15)))))))) else (some S)))))
def f0_settle_l15 : Nat → Int32 → Int32 → Ob → Option Ob
  | 0 => fun _ _ _ => none
  | k + 1 => f0_settle_b15 (f0_settle_l15 k)
def f0_settle (S : Ob) : Option Ob :=
  ((f0_protectedLimit S).bind (fun r2 => (rd 3 (S 3 2) (2 : Int32) (fun v5 => (f0_settle_l15 NF r2 v5 S)))))
set_option maxHeartbeats 4000000 in
set_option maxRecDepth 100000 in
theorem f0_settle_ok (l : Launch) (D : va_G) (cy : Nat → ClassId) (ad : Nat → Nat → Nat → Nat) (ns : List (Nat × Nat × Nat)) (M : Me) (t : Nat) (hI : IsSt cy ad ns t) (S : Ob) (m2 : Ob)  (hf : f0_settle S = some m2) : Cv l yX0_settle (.code yX0_settle cX0_settle 3 none :: tk_tb) { frames := 2, cells := 0, slots := 0, locals := 48 } D cy ad ns [.ref (ad t 1 0)] (va_up M t S) (va_up M t m2) := by
  refine Cv.of (by decide) (Nat.le_of_ble_eq_true rfl) ?_
  intro p e s m below meth c ls hE hW hl
  obtain ⟨hx, hb, hr, hml, hown, hts, hlk, hK⟩ := hE
  have hA : ∀ q : Nat, s.heap.size ≤ q → Aw ad ns s.heap.size q := fun q h => Or.inr h
  have hl : lv_has ls 3 [(0, .ref (ad t 1 0))] := hl
  unfold f0_settle at hf
  refine lv_aload_n hx hb dX0_settle_0 rfl (lv_at hl 0 rfl) ?_
  obtain ⟨r2, hc1, hf⟩ := bd_some hf
  have hC3 := f0_protectedLimit_ok l D cy ad ns M t hI S r2 hc1
  refine x_vi (n := 0) (As := []) (rest := []) hx hb hml hts hown hK hW hA hC3 (hI.2 1 0 (by decide)) up_io (hI.1 1 0 _) rfl rfl t_442 t_443 t_444 t_12 t_445 rfl (by decide +kernel) rfl rfl ⟨Nat.le_of_ble_eq_true rfl, Nat.le_of_ble_eq_true rfl⟩ hl.1 rfl (lv_room (Nat.le_of_ble_eq_true rfl)) dX0_settle_1 ⟨(Nat.le_of_ble_eq_true rfl), (Nat.le_of_ble_eq_true rfl)⟩ (fun H locs hW => ?_)
  refine lv_istore_n (lv' := [(1, .int r2), (0, .ref (ad t 1 0))]) hx hb dX0_settle_4 rfl hl (by decide) rfl (fun ls hl => ?_)
  refine lv_aload_n hx hb dX0_settle_5 rfl (lv_at hl 1 rfl) ?_
  refine x_get hx hb hts hown hK hW (hI.2 1 0 (by decide)) up_io (hI.1 1 0 _) rfl inX0 1 (by decide) t_262 rfl dX0_settle_6 ?_
  refine x_get hx hb hts hown hK hW (hI.2 3 0 (by decide)) up_io (hI.1 3 0 _) rfl inX5 1 (by decide) t_99 rfl dX0_settle_9 ?_
  refine lv_iconst (v := 2) hx hb dX0_settle_12 (by decide) ?_
  obtain ⟨hi4, hf⟩ := rd_some hf
  refine x_iald hx hb hK hW (hI.2 3 2 (by decide)) up_io (hI.1 3 2 _) hi4 dX0_settle_13 ?_
  generalize S 3 2 ((2 : Int32)).toNatClampNeg = v5 at hf ⊢
  refine lv_istore_n (lv' := [(2, .int v5), (1, .int r2), (0, .ref (ad t 1 0))]) hx hb dX0_settle_14 rfl hl (by decide) rfl (fun ls hl => ?_)
  have L15 : ∀ (k : Nat) (w1 : Int32) (w2 : Int32) (S : Ob) (H : Heap) (locs : List Loc) (ls : Array Slot), f0_settle_l15 k w1 w2 S = some m2 → Wl D cy ad ns (Aw ad ns s.heap.size) s.heap (va_up M t S) H locs → lv_has ls 3 [(0, .ref (ad t 1 0)), (1, .int w1), (2, .int w2)] → W p l e { frames := 2, cells := 0, slots := 0, locals := 48 } s m ([.ref (ad t 1 0)] : List Value).toArray below meth c H locs 0 0 (QV below D cy ad ns [.ref (ad t 1 0)] s (va_up M t m2)) (F0 m 15 ls []) := by
    intro k
    induction k with
    | zero => intro w1 w2 S H locs ls hf; exact absurd hf (by simp [f0_settle_l15])
    | succ k15 ih15 =>
      intro w1 w2 S H locs ls hf hW hl
      have hf : f0_settle_b15 (f0_settle_l15 k15) w1 w2 S = some m2 := hf
      unfold f0_settle_b15 at hf
      refine lv_iload_n hx hb dX0_settle_15 rfl (lv_at hl 2 rfl) ?_
      refine lv_if_le (tgt := 58) hx hb dX0_settle_16 (by decide) (fun c6 => ?_) (fun c6 => ?_)
      · replace hf := (if_pos c6).symm.trans hf
        exact x_vret hx hb hr hlk hK hW (congrArg (fun q => (va_up M t q)) (Option.some.inj hf)) dX0_settle_58
      · replace hf := (if_neg c6).symm.trans hf
        refine lv_aload_n hx hb dX0_settle_19 rfl (lv_at hl 0 rfl) ?_
        refine x_get hx hb hts hown hK hW (hI.2 1 0 (by decide)) up_io (hI.1 1 0 _) rfl inX0 1 (by decide) t_262 rfl dX0_settle_20 ?_
        refine x_get hx hb hts hown hK hW (hI.2 3 0 (by decide)) up_io (hI.1 3 0 _) rfl inX5 2 (by decide) t_102 rfl dX0_settle_23 ?_
        refine lv_iconst (v := 2) hx hb dX0_settle_26 (by decide) ?_
        obtain ⟨hi7, hf⟩ := rd_some hf
        refine x_iald hx hb hK hW (hI.2 3 3 (by decide)) up_io (hI.1 3 3 _) hi7 dX0_settle_27 ?_
        generalize S 3 3 ((2 : Int32)).toNatClampNeg = v8 at hf ⊢
        refine lv_iload_n hx hb dX0_settle_28 rfl (lv_at hl 1 rfl) ?_
        refine lv_icmp_gt (tgt := 33) hx hb dX0_settle_29 (by decide) (fun c9 => ?_) (fun c9 => ?_)
        · replace hf := (if_pos c9).symm.trans hf
          refine lv_aload_n hx hb dX0_settle_33 rfl (lv_at hl 0 rfl) ?_
          refine x_get hx hb hts hown hK hW (hI.2 1 0 (by decide)) up_io (hI.1 1 0 _) rfl inX0 1 (by decide) t_262 rfl dX0_settle_34 ?_
          refine lv_iconst (v := 1) hx hb dX0_settle_37 (by decide) ?_
          refine lv_aload_n hx hb dX0_settle_38 rfl (lv_at hl 0 rfl) ?_
          refine x_get hx hb hts hown hK hW (hI.2 1 0 (by decide)) up_io (hI.1 1 0 _) rfl inX0 1 (by decide) t_262 rfl dX0_settle_39 ?_
          refine x_get hx hb hts hown hK hW (hI.2 3 0 (by decide)) up_io (hI.1 3 0 _) rfl inX5 0 (by decide) t_96 rfl dX0_settle_42 ?_
          refine lv_iconst (v := 2) hx hb dX0_settle_45 (by decide) ?_
          obtain ⟨hi10, hf⟩ := ck_some hf
          refine x_aald hx hb hK hW (hI.2 3 1 (by decide)) up_io (hI.1 3 1 _) hi10 dX0_settle_46 ?_
          refine lv_iconst (v := 0) hx hb dX0_settle_47 (by decide) ?_
          obtain ⟨hi11, hf⟩ := rd_some hf
          refine x_iald hx hb hK hW (hI.2 3 _ (x_lt (vp_lt hi10) (by decide))) up_io (hI.1 3 _ _) hi11 dX0_settle_48 ?_
          generalize S 3 (((2 : Int32)).toNatClampNeg + 6) ((0 : Int32)).toNatClampNeg = v12 at hf ⊢
          obtain ⟨g14, hc13, hf⟩ := bd_some hf
          replace hf := st_some hf
          have hC16 := f5_moveToLast_ok l D cy ad ns (va_up M t S) t 3 3 (by decide) (hI.at_3) (S 3) (1 : Int32) v12 g14 hc13
          rw [uI_gid, uI_grp] at hC16
          refine x_vv (n := 2) (As := [.int (1 : Int32), .int v12]) (rest := []) hx hb hml hts hown hK hW hA hC16 (hI.2 3 0 (by decide)) up_io (hI.1 3 0 _) rfl rfl t_426 t_427 t_428 t_6 t_429 rfl (by decide +kernel) rfl rfl ⟨Nat.le_of_ble_eq_true rfl, Nat.le_of_ble_eq_true rfl⟩ hl.1 rfl (lv_room (Nat.le_of_ble_eq_true rfl)) dX0_settle_49 ⟨(Nat.le_of_ble_eq_true rfl), (Nat.le_of_ble_eq_true rfl)⟩ (fun H locs hW => ?_)
          generalize (va_up S 3 g14) = S15 at hf hW
          refine lv_iinc (v := (w2 + (-1 : Int32))) (lv' := [(2, .int (w2 + (-1 : Int32))), (0, .ref (ad t 1 0)), (1, .int w1)]) hx hb dX0_settle_52 hl (k := 2) rfl (by first | rfl | decide) (by decide) rfl (fun ls hl => ?_)
          refine lv_goto (tgt := 15) hx hb dX0_settle_55 (by decide) ?_
          exact ih15 _ _ _ _ _ _ hf hW (lv_sub hl [1, 2, 0] rfl)
        · replace hf := (if_neg c9).symm.trans hf
          exact x_vret hx hb hr hlk hK hW (congrArg (fun q => (va_up M t q)) (Option.some.inj hf)) dX0_settle_32
  exact L15 NF _ _ _ _ _ _ hf hW (lv_sub hl [2, 1, 0] rfl)
def f0_touch (a1 : Int32) (S : Ob) : Option Ob :=
  (rd 100 (S 3 4) a1 (fun v2 => (if v2 = (1 : Int32) then ((f5_moveToLast 3 (2 : Int32) a1 (S 3)).bind (fun g10 => (st (va_up S 3 g10) (fun S11 => ((f0_settle S11).bind (fun S14 => (some S14))))))) else (if v2 = (-1 : Int32) then (some S) else ((f5_moveToLast 3 v2 a1 (S 3)).bind (fun g6 => (st (va_up S 3 g6) (fun S7 => (some S7)))))))))
set_option maxHeartbeats 4000000 in
set_option maxRecDepth 100000 in
theorem f0_touch_ok (l : Launch) (D : va_G) (cy : Nat → ClassId) (ad : Nat → Nat → Nat → Nat) (ns : List (Nat × Nat × Nat)) (M : Me) (t : Nat) (hI : IsSt cy ad ns t) (S : Ob) (a1 : Int32) (m2 : Ob)  (hf : f0_touch a1 S = some m2) : Cv l yX0_touch (.code yX0_touch cX0_touch 3 none :: tk_tb) { frames := 3, cells := 0, slots := 0, locals := 70 } D cy ad ns [.ref (ad t 1 0), .int a1] (va_up M t S) (va_up M t m2) := by
  refine Cv.of (by decide) (Nat.le_of_ble_eq_true rfl) ?_
  intro p e s m below meth c ls hE hW hl
  obtain ⟨hx, hb, hr, hml, hown, hts, hlk, hK⟩ := hE
  have hA : ∀ q : Nat, s.heap.size ≤ q → Aw ad ns s.heap.size q := fun q h => Or.inr h
  have hl : lv_has ls 3 [(0, .ref (ad t 1 0)), (1, .int a1)] := hl
  unfold f0_touch at hf
  refine lv_aload_n hx hb dX0_touch_0 rfl (lv_at hl 0 rfl) ?_
  refine x_get hx hb hts hown hK hW (hI.2 1 0 (by decide)) up_io (hI.1 1 0 _) rfl inX0 1 (by decide) t_262 rfl dX0_touch_1 ?_
  refine x_get hx hb hts hown hK hW (hI.2 3 0 (by decide)) up_io (hI.1 3 0 _) rfl inX5 3 (by decide) t_107 rfl dX0_touch_4 ?_
  refine lv_iload_n hx hb dX0_touch_7 rfl (lv_at hl 1 rfl) ?_
  obtain ⟨hi1, hf⟩ := rd_some hf
  refine x_iald hx hb hK hW (hI.2 3 4 (by decide)) up_io (hI.1 3 4 _) hi1 dX0_touch_8 ?_
  generalize S 3 4 (a1).toNatClampNeg = v2 at hf ⊢
  refine lv_istore_n (lv' := [(2, .int v2), (0, .ref (ad t 1 0)), (1, .int a1)]) hx hb dX0_touch_9 rfl hl (by decide) rfl (fun ls hl => ?_)
  refine lv_iload_n hx hb dX0_touch_10 rfl (lv_at hl 0 rfl) ?_
  refine lv_iconst (v := 1) hx hb dX0_touch_11 (by decide) ?_
  refine lv_icmp_ne (tgt := 31) hx hb dX0_touch_12 (by decide) (fun c3 => ?_) (fun c3 => ?_)
  · replace hf := (if_neg c3).symm.trans hf
    refine lv_iload_n hx hb dX0_touch_31 rfl (lv_at hl 0 rfl) ?_
    refine lv_iconst (v := -1) hx hb dX0_touch_32 (by decide) ?_
    refine lv_icmp_eq (tgt := 45) hx hb dX0_touch_33 (by decide) (fun c4 => ?_) (fun c4 => ?_)
    · replace hf := (if_pos c4).symm.trans hf
      exact x_vret hx hb hr hlk hK hW (congrArg (fun q => (va_up M t q)) (Option.some.inj hf)) dX0_touch_45
    · replace hf := (if_neg c4).symm.trans hf
      refine lv_aload_n hx hb dX0_touch_36 rfl (lv_at hl 1 rfl) ?_
      refine x_get hx hb hts hown hK hW (hI.2 1 0 (by decide)) up_io (hI.1 1 0 _) rfl inX0 1 (by decide) t_262 rfl dX0_touch_37 ?_
      refine lv_iload_n hx hb dX0_touch_40 rfl (lv_at hl 0 rfl) ?_
      refine lv_iload_n hx hb dX0_touch_41 rfl (lv_at hl 2 rfl) ?_
      obtain ⟨g6, hc5, hf⟩ := bd_some hf
      replace hf := st_some hf
      have hC8 := f5_moveToLast_ok l D cy ad ns (va_up M t S) t 3 3 (by decide) (hI.at_3) (S 3) v2 a1 g6 hc5
      rw [uI_gid, uI_grp] at hC8
      refine x_vv (n := 2) (As := [.int v2, .int a1]) (rest := []) hx hb hml hts hown hK hW hA hC8 (hI.2 3 0 (by decide)) up_io (hI.1 3 0 _) rfl rfl t_426 t_427 t_428 t_6 t_429 rfl (by decide +kernel) rfl rfl ⟨Nat.le_of_ble_eq_true rfl, Nat.le_of_ble_eq_true rfl⟩ hl.1 rfl (lv_room (Nat.le_of_ble_eq_true rfl)) dX0_touch_42 ⟨(Nat.le_of_ble_eq_true rfl), (Nat.le_of_ble_eq_true rfl)⟩ (fun H locs hW => ?_)
      generalize (va_up S 3 g6) = S7 at hf hW
      exact x_vret hx hb hr hlk hK hW (congrArg (fun q => (va_up M t q)) (Option.some.inj hf)) dX0_touch_45
  · replace hf := (if_pos c3).symm.trans hf
    refine lv_aload_n hx hb dX0_touch_15 rfl (lv_at hl 1 rfl) ?_
    refine x_get hx hb hts hown hK hW (hI.2 1 0 (by decide)) up_io (hI.1 1 0 _) rfl inX0 1 (by decide) t_262 rfl dX0_touch_16 ?_
    refine lv_iconst (v := 2) hx hb dX0_touch_19 (by decide) ?_
    refine lv_iload_n hx hb dX0_touch_20 rfl (lv_at hl 2 rfl) ?_
    obtain ⟨g10, hc9, hf⟩ := bd_some hf
    replace hf := st_some hf
    have hC12 := f5_moveToLast_ok l D cy ad ns (va_up M t S) t 3 3 (by decide) (hI.at_3) (S 3) (2 : Int32) a1 g10 hc9
    rw [uI_gid, uI_grp] at hC12
    refine x_vv (n := 2) (As := [.int (2 : Int32), .int a1]) (rest := []) hx hb hml hts hown hK hW hA hC12 (hI.2 3 0 (by decide)) up_io (hI.1 3 0 _) rfl rfl t_426 t_427 t_428 t_6 t_429 rfl (by decide +kernel) rfl rfl ⟨Nat.le_of_ble_eq_true rfl, Nat.le_of_ble_eq_true rfl⟩ hl.1 rfl (lv_room (Nat.le_of_ble_eq_true rfl)) dX0_touch_21 ⟨(Nat.le_of_ble_eq_true rfl), (Nat.le_of_ble_eq_true rfl)⟩ (fun H locs hW => ?_)
    generalize (va_up S 3 g10) = S11 at hf hW
    refine lv_aload_n hx hb dX0_touch_24 rfl (lv_at hl 1 rfl) ?_
    obtain ⟨S14, hc13, hf⟩ := bd_some hf
    have hC15 := f0_settle_ok l D cy ad ns M t hI S11 S14 hc13
    refine x_vv (n := 0) (As := []) (rest := []) hx hb hml hts hown hK hW hA hC15 (hI.2 1 0 (by decide)) up_io (hI.1 1 0 _) rfl rfl t_438 t_440 p_6 t_12 t_441 rfl (by decide +kernel) rfl rfl ⟨Nat.le_of_ble_eq_true rfl, Nat.le_of_ble_eq_true rfl⟩ hl.1 rfl (lv_room (Nat.le_of_ble_eq_true rfl)) dX0_touch_25 ⟨(Nat.le_of_ble_eq_true rfl), (Nat.le_of_ble_eq_true rfl)⟩ (fun H locs hW => ?_)
    refine lv_goto (tgt := 45) hx hb dX0_touch_28 (by decide) ?_
    exact x_vret hx hb hr hlk hK hW (congrArg (fun q => (va_up M t q)) (Option.some.inj hf)) dX0_touch_45
def f0_victimAt (S : Ob) (a1 : Int32) : Option Int32 :=
  (rd 3 (S 3 2) (1 : Int32) (fun v2 => (if v2 ≤ a1 then ((f5_keyAt 3 (S 3) (2 : Int32) (a1 - v2)).bind (fun r5 => (some r5))) else ((f5_keyAt 3 (S 3) (1 : Int32) a1).bind (fun r8 => (some r8))))))
set_option maxHeartbeats 4000000 in
set_option maxRecDepth 100000 in
theorem f0_victimAt_ok (l : Launch) (D : va_G) (cy : Nat → ClassId) (ad : Nat → Nat → Nat → Nat) (ns : List (Nat × Nat × Nat)) (M : Me) (t : Nat) (hI : IsSt cy ad ns t) (S : Ob) (a1 : Int32) (r : Int32)  (hf : f0_victimAt S a1 = some r) : Ci l yX0_victimAt (.code yX0_victimAt cX0_victimAt 3 (some .int) :: tk_tb) { frames := 1, cells := 0, slots := 0, locals := 22 } D cy ad ns [.ref (ad t 1 0), .int a1] (va_up M t S) r (va_up M t S) := by
  refine Ci.of (by decide) (Nat.le_of_ble_eq_true rfl) ?_
  intro p e s m below meth c ls hE hW hl
  obtain ⟨hx, hb, hr, hml, hown, hts, hlk, hK⟩ := hE
  have hA : ∀ q : Nat, s.heap.size ≤ q → Aw ad ns s.heap.size q := fun q h => Or.inr h
  have hl : lv_has ls 3 [(0, .ref (ad t 1 0)), (1, .int a1)] := hl
  unfold f0_victimAt at hf
  refine lv_aload_n hx hb dX0_victimAt_0 rfl (lv_at hl 0 rfl) ?_
  refine x_get hx hb hts hown hK hW (hI.2 1 0 (by decide)) up_io (hI.1 1 0 _) rfl inX0 1 (by decide) t_262 rfl dX0_victimAt_1 ?_
  refine x_get hx hb hts hown hK hW (hI.2 3 0 (by decide)) up_io (hI.1 3 0 _) rfl inX5 1 (by decide) t_99 rfl dX0_victimAt_4 ?_
  refine lv_iconst (v := 1) hx hb dX0_victimAt_7 (by decide) ?_
  obtain ⟨hi1, hf⟩ := rd_some hf
  refine x_iald hx hb hK hW (hI.2 3 2 (by decide)) up_io (hI.1 3 2 _) hi1 dX0_victimAt_8 ?_
  generalize S 3 2 ((1 : Int32)).toNatClampNeg = v2 at hf ⊢
  refine lv_istore_n (lv' := [(2, .int v2), (0, .ref (ad t 1 0)), (1, .int a1)]) hx hb dX0_victimAt_9 rfl hl (by decide) rfl (fun ls hl => ?_)
  refine lv_iload_n hx hb dX0_victimAt_10 rfl (lv_at hl 2 rfl) ?_
  refine lv_iload_n hx hb dX0_victimAt_11 rfl (lv_at hl 0 rfl) ?_
  refine lv_icmp_ge (tgt := 27) hx hb dX0_victimAt_12 (by decide) (fun c3 => ?_) (fun c3 => ?_)
  · replace hf := (if_pos c3).symm.trans hf
    refine lv_aload_n hx hb dX0_victimAt_27 rfl (lv_at hl 1 rfl) ?_
    refine x_get hx hb hts hown hK hW (hI.2 1 0 (by decide)) up_io (hI.1 1 0 _) rfl inX0 1 (by decide) t_262 rfl dX0_victimAt_28 ?_
    refine lv_iconst (v := 2) hx hb dX0_victimAt_31 (by decide) ?_
    refine lv_iload_n hx hb dX0_victimAt_32 rfl (lv_at hl 2 rfl) ?_
    refine lv_iload_n hx hb dX0_victimAt_33 rfl (lv_at hl 0 rfl) ?_
    refine lv_isub hx hb dX0_victimAt_34 ?_
    obtain ⟨r5, hc4, hf⟩ := bd_some hf
    have hC6 := f5_keyAt_ok l D cy ad ns (va_up M t S) t 3 3 (by decide) (hI.at_3) (S 3) (2 : Int32) (a1 - v2) r5 hc4
    rw [uI_gid] at hC6
    refine x_vi (n := 2) (As := [.int (2 : Int32), .int (a1 - v2)]) (rest := []) hx hb hml hts hown hK hW hA hC6 (hI.2 3 0 (by decide)) up_io (hI.1 3 0 _) rfl rfl t_470 t_471 t_472 t_6 t_473 rfl (by decide +kernel) rfl rfl ⟨Nat.le_of_ble_eq_true rfl, Nat.le_of_ble_eq_true rfl⟩ hl.1 rfl (lv_room (Nat.le_of_ble_eq_true rfl)) dX0_victimAt_35 ⟨(Nat.le_of_ble_eq_true rfl), (Nat.le_of_ble_eq_true rfl)⟩ (fun H locs hW => ?_)
    exact x_iret hx hb hr hlk hK hW (Option.some.inj hf) rfl dX0_victimAt_38
  · replace hf := (if_neg c3).symm.trans hf
    refine lv_aload_n hx hb dX0_victimAt_15 rfl (lv_at hl 1 rfl) ?_
    refine x_get hx hb hts hown hK hW (hI.2 1 0 (by decide)) up_io (hI.1 1 0 _) rfl inX0 1 (by decide) t_262 rfl dX0_victimAt_16 ?_
    refine lv_iconst (v := 1) hx hb dX0_victimAt_19 (by decide) ?_
    refine lv_iload_n hx hb dX0_victimAt_20 rfl (lv_at hl 2 rfl) ?_
    obtain ⟨r8, hc7, hf⟩ := bd_some hf
    have hC9 := f5_keyAt_ok l D cy ad ns (va_up M t S) t 3 3 (by decide) (hI.at_3) (S 3) (1 : Int32) a1 r8 hc7
    rw [uI_gid] at hC9
    refine x_vi (n := 2) (As := [.int (1 : Int32), .int a1]) (rest := []) hx hb hml hts hown hK hW hA hC9 (hI.2 3 0 (by decide)) up_io (hI.1 3 0 _) rfl rfl t_470 t_471 t_472 t_6 t_473 rfl (by decide +kernel) rfl rfl ⟨Nat.le_of_ble_eq_true rfl, Nat.le_of_ble_eq_true rfl⟩ hl.1 rfl (lv_room (Nat.le_of_ble_eq_true rfl)) dX0_victimAt_21 ⟨(Nat.le_of_ble_eq_true rfl), (Nat.le_of_ble_eq_true rfl)⟩ (fun H locs hW => ?_)
    refine lv_goto (tgt := 38) hx hb dX0_victimAt_24 (by decide) ?_
    exact x_iret hx hb hr hlk hK hW (Option.some.inj hf) rfl dX0_victimAt_38
def f0_victimsNeeded_b33 (S : Ob) (rec33 : Int32 → Int32 → Int32 → Option Int32) (w2 : Int32) (w3 : Int32) (w4 : Int32) : Option Int32 :=
  (if w3 ≤ w4 then (some w4) else (if w2 ≤ 0 then (some w4) else ((f0_victimAt S w4).bind (fun r12 => (rd 100 (S 3 5) r12 (fun v15 => (rec33 (w2 - v15) w3 (w4 + (1 : Int32)))))))))
def f0_victimsNeeded_l33 (S : Ob) : Nat → Int32 → Int32 → Int32 → Option Int32
  | 0 => fun _ _ _ => none
  | k + 1 => f0_victimsNeeded_b33 S (f0_victimsNeeded_l33 S k)
def f0_victimsNeeded (S : Ob) (a1 : Int32) : Option Int32 :=
  ((f0_unitsInMain S).bind (fun r2 => (rd 100 (S 3 5) a1 (fun v5 => ((f0_keysInMain S).bind (fun r7 => (f0_victimsNeeded_l33 S NF ((r2 + v5) - ((S 1 0 2) - (S 1 0 4))) r7 (0 : Int32))))))))
set_option maxHeartbeats 4000000 in
set_option maxRecDepth 100000 in
theorem f0_victimsNeeded_ok (l : Launch) (D : va_G) (cy : Nat → ClassId) (ad : Nat → Nat → Nat → Nat) (ns : List (Nat × Nat × Nat)) (M : Me) (t : Nat) (hI : IsSt cy ad ns t) (S : Ob) (a1 : Int32) (r : Int32)  (hf : f0_victimsNeeded S a1 = some r) : Ci l yX0_victimsNeeded (.code yX0_victimsNeeded cX0_victimsNeeded 5 (some .int) :: tk_tb) { frames := 2, cells := 0, slots := 0, locals := 44 } D cy ad ns [.ref (ad t 1 0), .int a1] (va_up M t S) r (va_up M t S) := by
  refine Ci.of (by decide) (Nat.le_of_ble_eq_true rfl) ?_
  intro p e s m below meth c ls hE hW hl
  obtain ⟨hx, hb, hr, hml, hown, hts, hlk, hK⟩ := hE
  have hA : ∀ q : Nat, s.heap.size ≤ q → Aw ad ns s.heap.size q := fun q h => Or.inr h
  have hl : lv_has ls 5 [(0, .ref (ad t 1 0)), (1, .int a1)] := hl
  unfold f0_victimsNeeded at hf
  refine lv_aload_n hx hb dX0_victimsNeeded_0 rfl (lv_at hl 0 rfl) ?_
  obtain ⟨r2, hc1, hf⟩ := bd_some hf
  have hC3 := f0_unitsInMain_ok l D cy ad ns M t hI S r2 hc1
  refine x_vi (n := 0) (As := []) (rest := []) hx hb hml hts hown hK hW hA hC3 (hI.2 1 0 (by decide)) up_io (hI.1 1 0 _) rfl rfl t_458 t_460 p_9 t_12 t_461 rfl (by decide +kernel) rfl rfl ⟨Nat.le_of_ble_eq_true rfl, Nat.le_of_ble_eq_true rfl⟩ hl.1 rfl (lv_room (Nat.le_of_ble_eq_true rfl)) dX0_victimsNeeded_1 ⟨(Nat.le_of_ble_eq_true rfl), (Nat.le_of_ble_eq_true rfl)⟩ (fun H locs hW => ?_)
  refine lv_aload_n hx hb dX0_victimsNeeded_4 rfl (lv_at hl 0 rfl) ?_
  refine x_get hx hb hts hown hK hW (hI.2 1 0 (by decide)) up_io (hI.1 1 0 _) rfl inX0 1 (by decide) t_262 rfl dX0_victimsNeeded_5 ?_
  refine x_get hx hb hts hown hK hW (hI.2 3 0 (by decide)) up_io (hI.1 3 0 _) rfl inX5 4 (by decide) t_110 rfl dX0_victimsNeeded_8 ?_
  refine lv_iload_n hx hb dX0_victimsNeeded_11 rfl (lv_at hl 1 rfl) ?_
  obtain ⟨hi4, hf⟩ := rd_some hf
  refine x_iald hx hb hK hW (hI.2 3 5 (by decide)) up_io (hI.1 3 5 _) hi4 dX0_victimsNeeded_12 ?_
  generalize S 3 5 (a1).toNatClampNeg = v5 at hf ⊢
  refine lv_iadd hx hb dX0_victimsNeeded_13 ?_
  refine lv_aload_n hx hb dX0_victimsNeeded_14 rfl (lv_at hl 0 rfl) ?_
  refine x_get hx hb hts hown hK hW (hI.2 1 0 (by decide)) up_io (hI.1 1 0 _) rfl inX0 2 (by decide) t_265 rfl dX0_victimsNeeded_15 ?_
  refine lv_aload_n hx hb dX0_victimsNeeded_18 rfl (lv_at hl 0 rfl) ?_
  refine x_get hx hb hts hown hK hW (hI.2 1 0 (by decide)) up_io (hI.1 1 0 _) rfl inX0 4 (by decide) t_267 rfl dX0_victimsNeeded_19 ?_
  refine lv_isub hx hb dX0_victimsNeeded_22 ?_
  refine lv_isub hx hb dX0_victimsNeeded_23 ?_
  refine lv_istore_n (lv' := [(2, .int ((r2 + v5) - ((S 1 0 2) - (S 1 0 4)))), (0, .ref (ad t 1 0)), (1, .int a1)]) hx hb dX0_victimsNeeded_24 rfl hl (by decide) rfl (fun ls hl => ?_)
  refine lv_aload_n hx hb dX0_victimsNeeded_25 rfl (lv_at hl 1 rfl) ?_
  obtain ⟨r7, hc6, hf⟩ := bd_some hf
  have hC8 := f0_keysInMain_ok l D cy ad ns M t hI S r7 hc6
  refine x_vi (n := 0) (As := []) (rest := []) hx hb hml hts hown hK hW hA hC8 (hI.2 1 0 (by decide)) up_io (hI.1 1 0 _) rfl rfl t_462 t_464 p_10 t_12 t_465 rfl (by decide +kernel) rfl rfl ⟨Nat.le_of_ble_eq_true rfl, Nat.le_of_ble_eq_true rfl⟩ hl.1 rfl (lv_room (Nat.le_of_ble_eq_true rfl)) dX0_victimsNeeded_26 ⟨(Nat.le_of_ble_eq_true rfl), (Nat.le_of_ble_eq_true rfl)⟩ (fun H locs hW => ?_)
  refine lv_istore_n (lv' := [(3, .int r7), (2, .int ((r2 + v5) - ((S 1 0 2) - (S 1 0 4)))), (0, .ref (ad t 1 0)), (1, .int a1)]) hx hb dX0_victimsNeeded_29 rfl hl (by decide) rfl (fun ls hl => ?_)
  refine lv_iconst (v := 0) hx hb dX0_victimsNeeded_30 (by decide) ?_
  refine lv_istore (lv' := [(4, .int (0 : Int32)), (3, .int r7), (2, .int ((r2 + v5) - ((S 1 0 2) - (S 1 0 4)))), (0, .ref (ad t 1 0)), (1, .int a1)]) hx hb dX0_victimsNeeded_31 hl (by decide) rfl (fun ls hl => ?_)
  have L33 : ∀ (k : Nat) (w2 : Int32) (w3 : Int32) (w4 : Int32) (H : Heap) (locs : List Loc) (ls : Array Slot), f0_victimsNeeded_l33 S k w2 w3 w4 = some r → Wl D cy ad ns (Aw ad ns s.heap.size) s.heap (va_up M t S) H locs → lv_has ls 5 [(0, .ref (ad t 1 0)), (2, .int w2), (3, .int w3), (4, .int w4)] → W p l e { frames := 2, cells := 0, slots := 0, locals := 44 } s m ([.ref (ad t 1 0), .int a1] : List Value).toArray below meth c H locs 0 0 (QI below D cy ad ns [.ref (ad t 1 0), .int a1] s r (va_up M t S)) (F0 m 33 ls []) := by
    intro k
    induction k with
    | zero => intro w2 w3 w4 H locs ls hf; exact absurd hf (by simp [f0_victimsNeeded_l33])
    | succ k33 ih33 =>
      intro w2 w3 w4 H locs ls hf hW hl
      have hf : f0_victimsNeeded_b33 S (f0_victimsNeeded_l33 S k33) w2 w3 w4 = some r := hf
      unfold f0_victimsNeeded_b33 at hf
      refine lv_iload hx hb dX0_victimsNeeded_33 (lv_at hl 3 rfl) ?_
      refine lv_iload_n hx hb dX0_victimsNeeded_35 rfl (lv_at hl 2 rfl) ?_
      refine lv_icmp_ge (tgt := 66) hx hb dX0_victimsNeeded_36 (by decide) (fun c9 => ?_) (fun c9 => ?_)
      · replace hf := (if_pos c9).symm.trans hf
        refine lv_iload hx hb dX0_victimsNeeded_66 (lv_at hl 3 rfl) ?_
        exact x_iret hx hb hr hlk hK hW (Option.some.inj hf) rfl dX0_victimsNeeded_68
      · replace hf := (if_neg c9).symm.trans hf
        refine lv_iload_n hx hb dX0_victimsNeeded_39 rfl (lv_at hl 1 rfl) ?_
        refine lv_if_le (tgt := 66) hx hb dX0_victimsNeeded_40 (by decide) (fun c10 => ?_) (fun c10 => ?_)
        · replace hf := (if_pos c10).symm.trans hf
          refine lv_iload hx hb dX0_victimsNeeded_66 (lv_at hl 3 rfl) ?_
          exact x_iret hx hb hr hlk hK hW (Option.some.inj hf) rfl dX0_victimsNeeded_68
        · replace hf := (if_neg c10).symm.trans hf
          refine lv_iload_n hx hb dX0_victimsNeeded_43 rfl (lv_at hl 1 rfl) ?_
          refine lv_aload_n hx hb dX0_victimsNeeded_44 rfl (lv_at hl 0 rfl) ?_
          refine x_get hx hb hts hown hK hW (hI.2 1 0 (by decide)) up_io (hI.1 1 0 _) rfl inX0 1 (by decide) t_262 rfl dX0_victimsNeeded_45 ?_
          refine x_get hx hb hts hown hK hW (hI.2 3 0 (by decide)) up_io (hI.1 3 0 _) rfl inX5 4 (by decide) t_110 rfl dX0_victimsNeeded_48 ?_
          refine lv_aload_n hx hb dX0_victimsNeeded_51 rfl (lv_at hl 0 rfl) ?_
          refine lv_iload hx hb dX0_victimsNeeded_52 (lv_at hl 3 rfl) ?_
          obtain ⟨r12, hc11, hf⟩ := bd_some hf
          have hC13 := f0_victimAt_ok l D cy ad ns M t hI S w4 r12 hc11
          refine x_vi (n := 1) (As := [.int w4]) (rest := [.ref (ad t 3 5), .int w2]) hx hb hml hts hown hK hW hA hC13 (hI.2 1 0 (by decide)) up_io (hI.1 1 0 _) rfl rfl t_466 t_468 p_11 t_12 t_469 rfl (by decide +kernel) rfl rfl ⟨Nat.le_of_ble_eq_true rfl, Nat.le_of_ble_eq_true rfl⟩ hl.1 rfl (lv_room (Nat.le_of_ble_eq_true rfl)) dX0_victimsNeeded_54 ⟨(Nat.le_of_ble_eq_true rfl), (Nat.le_of_ble_eq_true rfl)⟩ (fun H locs hW => ?_)
          obtain ⟨hi14, hf⟩ := rd_some hf
          refine x_iald hx hb hK hW (hI.2 3 5 (by decide)) up_io (hI.1 3 5 _) hi14 dX0_victimsNeeded_57 ?_
          generalize S 3 5 (r12).toNatClampNeg = v15 at hf ⊢
          refine lv_isub hx hb dX0_victimsNeeded_58 ?_
          refine lv_istore_n (lv' := [(2, .int (w2 - v15)), (0, .ref (ad t 1 0)), (3, .int w3), (4, .int w4)]) hx hb dX0_victimsNeeded_59 rfl hl (by decide) rfl (fun ls hl => ?_)
          refine lv_iinc (v := (w4 + (1 : Int32))) (lv' := [(4, .int (w4 + (1 : Int32))), (2, .int (w2 - v15)), (0, .ref (ad t 1 0)), (3, .int w3)]) hx hb dX0_victimsNeeded_60 hl (k := 3) rfl (by first | rfl | decide) (by decide) rfl (fun ls hl => ?_)
          refine lv_goto (tgt := 33) hx hb dX0_victimsNeeded_63 (by decide) ?_
          exact ih33 _ _ _ _ _ _ hf hW (lv_sub hl [2, 1, 3, 0] rfl)
  exact L33 NF _ _ _ _ _ _ hf hW (lv_sub hl [3, 2, 1, 0] rfl)
def f0_victimsBeaten_j75 (S : Ob) (w2 : Int32) (w3 : Int32) (w4 : Int32) : Option Int32 :=
  (if (S 1 0 3) = 0 then (some w2) else (if w3 ≤ w4 then (some (0 : Int32)) else (some w2)))
def f0_victimsBeaten_b25 (S : Ob) (rec25 : Int32 → Int32 → Int32 → Int32 → Option Int32) (w2 : Int32) (w3 : Int32) (w4 : Int32) (w5 : Int32) : Option Int32 :=
  (if w2 ≤ w5 then (f0_victimsBeaten_j75 S w2 w3 w4) else ((f0_victimAt S w5).bind (fun r7 => ((f7_guess (S 2) r7).bind (fun r10 => (if (S 1 0 3) = 0 then (if r10 < w3 then (rec25 w2 w3 (w4 + r10) (w5 + (1 : Int32))) else (some w5)) else (rec25 w2 w3 (w4 + r10) (w5 + (1 : Int32)))))))))
def f0_victimsBeaten_l25 (S : Ob) : Nat → Int32 → Int32 → Int32 → Int32 → Option Int32
  | 0 => fun _ _ _ _ => none
  | k + 1 => f0_victimsBeaten_b25 S (f0_victimsBeaten_l25 S k)
def f0_victimsBeaten (S : Ob) (a1 : Int32) (a2 : Int32) : Option Int32 :=
  (if (S 1 0 3) = (2 : Int32) then (some a2) else ((f7_guess (S 2) a1).bind (fun r3 => (f0_victimsBeaten_l25 S NF a2 r3 (0 : Int32) (0 : Int32)))))
set_option maxHeartbeats 4000000 in
set_option maxRecDepth 100000 in
theorem f0_victimsBeaten_ok (l : Launch) (D : va_G) (cy : Nat → ClassId) (ad : Nat → Nat → Nat → Nat) (ns : List (Nat × Nat × Nat)) (M : Me) (t : Nat) (hI : IsSt cy ad ns t) (S : Ob) (a1 : Int32) (a2 : Int32) (r : Int32)  (hf : f0_victimsBeaten S a1 a2 = some r) : Ci l yX0_victimsBeaten (.code yX0_victimsBeaten cX0_victimsBeaten 7 (some .int) :: tk_tb) { frames := 2, cells := 0, slots := 0, locals := 46 } D cy ad ns [.ref (ad t 1 0), .int a1, .int a2] (va_up M t S) r (va_up M t S) := by
  refine Ci.of (by decide) (Nat.le_of_ble_eq_true rfl) ?_
  intro p e s m below meth c ls hE hW hl
  obtain ⟨hx, hb, hr, hml, hown, hts, hlk, hK⟩ := hE
  have hA : ∀ q : Nat, s.heap.size ≤ q → Aw ad ns s.heap.size q := fun q h => Or.inr h
  have hl : lv_has ls 7 [(0, .ref (ad t 1 0)), (1, .int a1), (2, .int a2)] := hl
  unfold f0_victimsBeaten at hf
  have J75 : ∀ (w2 : Int32) (w3 : Int32) (w4 : Int32) (H : Heap) (locs : List Loc) (ls : Array Slot), f0_victimsBeaten_j75 S w2 w3 w4 = some r → Wl D cy ad ns (Aw ad ns s.heap.size) s.heap (va_up M t S) H locs → lv_has ls 7 [(0, .ref (ad t 1 0)), (2, .int w2), (3, .int w3), (4, .int w4)] → W p l e { frames := 2, cells := 0, slots := 0, locals := 46 } s m ([.ref (ad t 1 0), .int a1, .int a2] : List Value).toArray below meth c H locs 0 0 (QI below D cy ad ns [.ref (ad t 1 0), .int a1, .int a2] s r (va_up M t S)) (F0 m 75 ls []) := by
    intro w2 w3 w4 H locs ls hf hW hl
    unfold f0_victimsBeaten_j75 at hf
    refine lv_aload_n hx hb dX0_victimsBeaten_75 rfl (lv_at hl 0 rfl) ?_
    refine x_get hx hb hts hown hK hW (hI.2 1 0 (by decide)) up_io (hI.1 1 0 _) rfl inX0 3 (by decide) t_266 rfl dX0_victimsBeaten_76 ?_
    refine lv_if_eq (tgt := 88) hx hb dX0_victimsBeaten_79 (by decide) (fun c14 => ?_) (fun c14 => ?_)
    · replace hf := (if_pos c14).symm.trans hf
      refine lv_iload_n hx hb dX0_victimsBeaten_88 rfl (lv_at hl 1 rfl) ?_
      refine lv_goto (tgt := 93) hx hb dX0_victimsBeaten_89 (by decide) ?_
      exact x_iret hx hb hr hlk hK hW (Option.some.inj hf) rfl dX0_victimsBeaten_93
    · replace hf := (if_neg c14).symm.trans hf
      refine lv_iload_n hx hb dX0_victimsBeaten_82 rfl (lv_at hl 2 rfl) ?_
      refine lv_iload hx hb dX0_victimsBeaten_83 (lv_at hl 3 rfl) ?_
      refine lv_icmp_le (tgt := 92) hx hb dX0_victimsBeaten_85 (by decide) (fun c15 => ?_) (fun c15 => ?_)
      · replace hf := (if_pos c15).symm.trans hf
        refine lv_iconst (v := 0) hx hb dX0_victimsBeaten_92 (by decide) ?_
        exact x_iret hx hb hr hlk hK hW (Option.some.inj hf) rfl dX0_victimsBeaten_93
      · replace hf := (if_neg c15).symm.trans hf
        refine lv_iload_n hx hb dX0_victimsBeaten_88 rfl (lv_at hl 1 rfl) ?_
        refine lv_goto (tgt := 93) hx hb dX0_victimsBeaten_89 (by decide) ?_
        exact x_iret hx hb hr hlk hK hW (Option.some.inj hf) rfl dX0_victimsBeaten_93
  refine lv_aload_n hx hb dX0_victimsBeaten_0 rfl (lv_at hl 0 rfl) ?_
  refine x_get hx hb hts hown hK hW (hI.2 1 0 (by decide)) up_io (hI.1 1 0 _) rfl inX0 3 (by decide) t_266 rfl dX0_victimsBeaten_1 ?_
  refine lv_iconst (v := 2) hx hb dX0_victimsBeaten_4 (by decide) ?_
  refine lv_icmp_ne (tgt := 10) hx hb dX0_victimsBeaten_5 (by decide) (fun c1 => ?_) (fun c1 => ?_)
  · replace hf := (if_neg c1).symm.trans hf
    refine lv_aload_n hx hb dX0_victimsBeaten_10 rfl (lv_at hl 0 rfl) ?_
    refine x_get hx hb hts hown hK hW (hI.2 1 0 (by decide)) up_io (hI.1 1 0 _) rfl inX0 0 (by decide) t_259 rfl dX0_victimsBeaten_11 ?_
    refine lv_iload_n hx hb dX0_victimsBeaten_14 rfl (lv_at hl 1 rfl) ?_
    obtain ⟨r3, hc2, hf⟩ := bd_some hf
    have hC4 := f7_guess_ok l D cy ad ns (va_up M t S) t 2 (hI.at_2) (S 2) a1 r3 hc2
    rw [uI_gid] at hC4
    refine x_vi (n := 1) (As := [.int a1]) (rest := []) hx hb hml hts hown hK hW hA hC4 (hI.2 2 0 (by decide)) up_io (hI.1 2 0 _) rfl rfl t_478 t_479 t_480 t_13 t_481 rfl (by decide +kernel) rfl rfl ⟨Nat.le_of_ble_eq_true rfl, Nat.le_of_ble_eq_true rfl⟩ hl.1 rfl (lv_room (Nat.le_of_ble_eq_true rfl)) dX0_victimsBeaten_15 ⟨(Nat.le_of_ble_eq_true rfl), (Nat.le_of_ble_eq_true rfl)⟩ (fun H locs hW => ?_)
    refine lv_istore_n (lv' := [(3, .int r3), (0, .ref (ad t 1 0)), (1, .int a1), (2, .int a2)]) hx hb dX0_victimsBeaten_18 rfl hl (by decide) rfl (fun ls hl => ?_)
    refine lv_iconst (v := 0) hx hb dX0_victimsBeaten_19 (by decide) ?_
    refine lv_istore (lv' := [(4, .int (0 : Int32)), (3, .int r3), (0, .ref (ad t 1 0)), (1, .int a1), (2, .int a2)]) hx hb dX0_victimsBeaten_20 hl (by decide) rfl (fun ls hl => ?_)
    refine lv_iconst (v := 0) hx hb dX0_victimsBeaten_22 (by decide) ?_
    refine lv_istore (lv' := [(5, .int (0 : Int32)), (4, .int (0 : Int32)), (3, .int r3), (0, .ref (ad t 1 0)), (1, .int a1), (2, .int a2)]) hx hb dX0_victimsBeaten_23 hl (by decide) rfl (fun ls hl => ?_)
    have L25 : ∀ (k : Nat) (w2 : Int32) (w3 : Int32) (w4 : Int32) (w5 : Int32) (H : Heap) (locs : List Loc) (ls : Array Slot), f0_victimsBeaten_l25 S k w2 w3 w4 w5 = some r → Wl D cy ad ns (Aw ad ns s.heap.size) s.heap (va_up M t S) H locs → lv_has ls 7 [(0, .ref (ad t 1 0)), (2, .int w2), (3, .int w3), (4, .int w4), (5, .int w5)] → W p l e { frames := 2, cells := 0, slots := 0, locals := 46 } s m ([.ref (ad t 1 0), .int a1, .int a2] : List Value).toArray below meth c H locs 0 0 (QI below D cy ad ns [.ref (ad t 1 0), .int a1, .int a2] s r (va_up M t S)) (F0 m 25 ls []) := by
      intro k
      induction k with
      | zero => intro w2 w3 w4 w5 H locs ls hf; exact absurd hf (by simp [f0_victimsBeaten_l25])
      | succ k25 ih25 =>
        intro w2 w3 w4 w5 H locs ls hf hW hl
        have hf : f0_victimsBeaten_b25 S (f0_victimsBeaten_l25 S k25) w2 w3 w4 w5 = some r := hf
        unfold f0_victimsBeaten_b25 at hf
        refine lv_iload hx hb dX0_victimsBeaten_25 (lv_at hl 4 rfl) ?_
        refine lv_iload_n hx hb dX0_victimsBeaten_27 rfl (lv_at hl 1 rfl) ?_
        refine lv_icmp_ge (tgt := 75) hx hb dX0_victimsBeaten_28 (by decide) (fun c5 => ?_) (fun c5 => ?_)
        · replace hf := (if_pos c5).symm.trans hf
          exact J75 _ _ _ _ _ _ hf hW (lv_sub hl [0, 1, 2, 3] rfl)
        · replace hf := (if_neg c5).symm.trans hf
          refine lv_aload_n hx hb dX0_victimsBeaten_31 rfl (lv_at hl 0 rfl) ?_
          refine x_get hx hb hts hown hK hW (hI.2 1 0 (by decide)) up_io (hI.1 1 0 _) rfl inX0 0 (by decide) t_259 rfl dX0_victimsBeaten_32 ?_
          refine lv_aload_n hx hb dX0_victimsBeaten_35 rfl (lv_at hl 0 rfl) ?_
          refine lv_iload hx hb dX0_victimsBeaten_36 (lv_at hl 4 rfl) ?_
          obtain ⟨r7, hc6, hf⟩ := bd_some hf
          have hC8 := f0_victimAt_ok l D cy ad ns M t hI S w5 r7 hc6
          refine x_vi (n := 1) (As := [.int w5]) (rest := [.ref (ad t 2 0)]) hx hb hml hts hown hK hW hA hC8 (hI.2 1 0 (by decide)) up_io (hI.1 1 0 _) rfl rfl t_466 t_468 p_11 t_12 t_469 rfl (by decide +kernel) rfl rfl ⟨Nat.le_of_ble_eq_true rfl, Nat.le_of_ble_eq_true rfl⟩ hl.1 rfl (lv_room (Nat.le_of_ble_eq_true rfl)) dX0_victimsBeaten_38 ⟨(Nat.le_of_ble_eq_true rfl), (Nat.le_of_ble_eq_true rfl)⟩ (fun H locs hW => ?_)
          obtain ⟨r10, hc9, hf⟩ := bd_some hf
          have hC11 := f7_guess_ok l D cy ad ns (va_up M t S) t 2 (hI.at_2) (S 2) r7 r10 hc9
          rw [uI_gid] at hC11
          refine x_vi (n := 1) (As := [.int r7]) (rest := []) hx hb hml hts hown hK hW hA hC11 (hI.2 2 0 (by decide)) up_io (hI.1 2 0 _) rfl rfl t_478 t_479 t_480 t_13 t_481 rfl (by decide +kernel) rfl rfl ⟨Nat.le_of_ble_eq_true rfl, Nat.le_of_ble_eq_true rfl⟩ hl.1 rfl (lv_room (Nat.le_of_ble_eq_true rfl)) dX0_victimsBeaten_41 ⟨(Nat.le_of_ble_eq_true rfl), (Nat.le_of_ble_eq_true rfl)⟩ (fun H locs hW => ?_)
          refine lv_istore (lv' := [(6, .int r10), (0, .ref (ad t 1 0)), (2, .int w2), (3, .int w3), (4, .int w4), (5, .int w5)]) hx hb dX0_victimsBeaten_44 hl (by decide) rfl (fun ls hl => ?_)
          refine lv_iload hx hb dX0_victimsBeaten_46 (lv_at hl 4 rfl) ?_
          refine lv_iload hx hb dX0_victimsBeaten_48 (lv_at hl 0 rfl) ?_
          refine lv_iadd hx hb dX0_victimsBeaten_50 ?_
          refine lv_istore (lv' := [(4, .int (w4 + r10)), (6, .int r10), (0, .ref (ad t 1 0)), (2, .int w2), (3, .int w3), (5, .int w5)]) hx hb dX0_victimsBeaten_51 hl (by decide) rfl (fun ls hl => ?_)
          refine lv_aload_n hx hb dX0_victimsBeaten_53 rfl (lv_at hl 2 rfl) ?_
          refine x_get hx hb hts hown hK hW (hI.2 1 0 (by decide)) up_io (hI.1 1 0 _) rfl inX0 3 (by decide) t_266 rfl dX0_victimsBeaten_54 ?_
          refine lv_if_ne (tgt := 69) hx hb dX0_victimsBeaten_57 (by decide) (fun c12 => ?_) (fun c12 => ?_)
          · replace hf := (if_neg c12).symm.trans hf
            refine lv_iinc (v := (w5 + (1 : Int32))) (lv' := [(5, .int (w5 + (1 : Int32))), (4, .int (w4 + r10)), (6, .int r10), (0, .ref (ad t 1 0)), (2, .int w2), (3, .int w3)]) hx hb dX0_victimsBeaten_69 hl (k := 5) rfl (by first | rfl | decide) (by decide) rfl (fun ls hl => ?_)
            refine lv_goto (tgt := 25) hx hb dX0_victimsBeaten_72 (by decide) ?_
            exact ih25 _ _ _ _ _ _ _ hf hW (lv_sub hl [3, 4, 5, 1, 0] rfl)
          · replace hf := (if_pos c12).symm.trans hf
            refine lv_iload_n hx hb dX0_victimsBeaten_60 rfl (lv_at hl 4 rfl) ?_
            refine lv_iload hx hb dX0_victimsBeaten_61 (lv_at hl 1 rfl) ?_
            refine lv_icmp_gt (tgt := 69) hx hb dX0_victimsBeaten_63 (by decide) (fun c13 => ?_) (fun c13 => ?_)
            · replace hf := (if_pos c13).symm.trans hf
              refine lv_iinc (v := (w5 + (1 : Int32))) (lv' := [(5, .int (w5 + (1 : Int32))), (4, .int (w4 + r10)), (6, .int r10), (0, .ref (ad t 1 0)), (2, .int w2), (3, .int w3)]) hx hb dX0_victimsBeaten_69 hl (k := 5) rfl (by first | rfl | decide) (by decide) rfl (fun ls hl => ?_)
              refine lv_goto (tgt := 25) hx hb dX0_victimsBeaten_72 (by decide) ?_
              exact ih25 _ _ _ _ _ _ _ hf hW (lv_sub hl [3, 4, 5, 1, 0] rfl)
            · replace hf := (if_neg c13).symm.trans hf
              refine lv_iload hx hb dX0_victimsBeaten_66 (lv_at hl 5 rfl) ?_
              exact x_iret hx hb hr hlk hK hW (Option.some.inj hf) rfl dX0_victimsBeaten_68
    exact L25 NF _ _ _ _ _ _ _ hf hW (lv_sub hl [3, 5, 2, 1, 0] rfl)
  · replace hf := (if_pos c1).symm.trans hf
    refine lv_iload_n hx hb dX0_victimsBeaten_8 rfl (lv_at hl 2 rfl) ?_
    exact x_iret hx hb hr hlk hK hW (Option.some.inj hf) rfl dX0_victimsBeaten_9
def f0_spare_b16 (rec16 : Int32 → Int32 → Int32 → Ob → Option Ob) (w1 : Int32) (w2 : Int32) (w3 : Int32) (S : Ob) : Option Ob :=
  (if w1 ≤ w3 then (some S) else (if w2 ≤ w3 then (ck 3 (2 : Int32) (rd 100 (S 3 (((2 : Int32)).toNatClampNeg + 6)) (0 : Int32) (fun v7 => ((f5_moveToLast 3 (2 : Int32) v7 (S 3)).bind (fun g9 => (st (va_up S 3 g9) (fun S10 => (rec16 w1 w2 (w3 + (1 : Int32)) S10)))))))) else (ck 3 (1 : Int32) (rd 100 (S 3 (((1 : Int32)).toNatClampNeg + 6)) (0 : Int32) (fun v14 => ((f5_moveToLast 3 (1 : Int32) v14 (S 3)).bind (fun g16 => (st (va_up S 3 g16) (fun S17 => (rec16 w1 w2 (w3 + (1 : Int32)) S17))))))))))
def f0_spare_l16 : Nat → Int32 → Int32 → Int32 → Ob → Option Ob
  | 0 => fun _ _ _ _ => none
  | k + 1 => f0_spare_b16 (f0_spare_l16 k)
def f0_spare (a1 : Int32) (S : Ob) : Option Ob :=
  (rd 3 (S 3 2) (1 : Int32) (fun v2 => (f0_spare_l16 NF a1 (if v2 < a1 then v2 else a1) (0 : Int32) S)))
set_option maxHeartbeats 4000000 in
set_option maxRecDepth 100000 in
theorem f0_spare_ok (l : Launch) (D : va_G) (cy : Nat → ClassId) (ad : Nat → Nat → Nat → Nat) (ns : List (Nat × Nat × Nat)) (M : Me) (t : Nat) (hI : IsSt cy ad ns t) (S : Ob) (a1 : Int32) (m2 : Ob)  (hf : f0_spare a1 S = some m2) : Cv l yX0_spare (.code yX0_spare cX0_spare 5 none :: tk_tb) { frames := 2, cells := 0, slots := 0, locals := 48 } D cy ad ns [.ref (ad t 1 0), .int a1] (va_up M t S) (va_up M t m2) := by
  refine Cv.of (by decide) (Nat.le_of_ble_eq_true rfl) ?_
  intro p e s m below meth c ls hE hW hl
  obtain ⟨hx, hb, hr, hml, hown, hts, hlk, hK⟩ := hE
  have hA : ∀ q : Nat, s.heap.size ≤ q → Aw ad ns s.heap.size q := fun q h => Or.inr h
  have hl : lv_has ls 5 [(0, .ref (ad t 1 0)), (1, .int a1)] := hl
  unfold f0_spare at hf
  refine lv_iload_n hx hb dX0_spare_0 rfl (lv_at hl 1 rfl) ?_
  refine lv_aload_n hx hb dX0_spare_1 rfl (lv_at hl 0 rfl) ?_
  refine x_get hx hb hts hown hK hW (hI.2 1 0 (by decide)) up_io (hI.1 1 0 _) rfl inX0 1 (by decide) t_262 rfl dX0_spare_2 ?_
  refine x_get hx hb hts hown hK hW (hI.2 3 0 (by decide)) up_io (hI.1 3 0 _) rfl inX5 1 (by decide) t_99 rfl dX0_spare_5 ?_
  refine lv_iconst (v := 1) hx hb dX0_spare_8 (by decide) ?_
  obtain ⟨hi1, hf⟩ := rd_some hf
  refine x_iald hx hb hK hW (hI.2 3 2 (by decide)) up_io (hI.1 3 2 _) hi1 dX0_spare_9 ?_
  generalize S 3 2 ((1 : Int32)).toNatClampNeg = v2 at hf ⊢
  refine va_mmin hx hb (hml.trans hl.1.symm) hown (hts _ t_488) (hts _ t_149) (hts _ t_7) (hts _ t_150) (Nat.le_of_ble_eq_true rfl) (Nat.le_of_ble_eq_true rfl) (Nat.zero_le _) (Nat.zero_le _) dX0_spare_10 ?_
  refine lv_istore_n (lv' := [(2, .int (if v2 < a1 then v2 else a1)), (0, .ref (ad t 1 0)), (1, .int a1)]) hx hb dX0_spare_13 rfl hl (by decide) rfl (fun ls hl => ?_)
  refine lv_iconst (v := 0) hx hb dX0_spare_14 (by decide) ?_
  refine lv_istore_n (lv' := [(3, .int (0 : Int32)), (2, .int (if v2 < a1 then v2 else a1)), (0, .ref (ad t 1 0)), (1, .int a1)]) hx hb dX0_spare_15 rfl hl (by decide) rfl (fun ls hl => ?_)
  have L16 : ∀ (k : Nat) (w1 : Int32) (w2 : Int32) (w3 : Int32) (S : Ob) (H : Heap) (locs : List Loc) (ls : Array Slot), f0_spare_l16 k w1 w2 w3 S = some m2 → Wl D cy ad ns (Aw ad ns s.heap.size) s.heap (va_up M t S) H locs → lv_has ls 5 [(0, .ref (ad t 1 0)), (1, .int w1), (2, .int w2), (3, .int w3)] → W p l e { frames := 2, cells := 0, slots := 0, locals := 48 } s m ([.ref (ad t 1 0), .int a1] : List Value).toArray below meth c H locs 0 0 (QV below D cy ad ns [.ref (ad t 1 0), .int a1] s (va_up M t m2)) (F0 m 16 ls []) := by
    intro k
    induction k with
    | zero => intro w1 w2 w3 S H locs ls hf; exact absurd hf (by simp [f0_spare_l16])
    | succ k16 ih16 =>
      intro w1 w2 w3 S H locs ls hf hW hl
      have hf : f0_spare_b16 (f0_spare_l16 k16) w1 w2 w3 S = some m2 := hf
      unfold f0_spare_b16 at hf
      refine lv_iload_n hx hb dX0_spare_16 rfl (lv_at hl 3 rfl) ?_
      refine lv_iload_n hx hb dX0_spare_17 rfl (lv_at hl 1 rfl) ?_
      refine lv_icmp_ge (tgt := 60) hx hb dX0_spare_18 (by decide) (fun c3 => ?_) (fun c3 => ?_)
      · replace hf := (if_pos c3).symm.trans hf
        exact x_vret hx hb hr hlk hK hW (congrArg (fun q => (va_up M t q)) (Option.some.inj hf)) dX0_spare_60
      · replace hf := (if_neg c3).symm.trans hf
        refine lv_iload_n hx hb dX0_spare_21 rfl (lv_at hl 3 rfl) ?_
        refine lv_iload_n hx hb dX0_spare_22 rfl (lv_at hl 2 rfl) ?_
        refine lv_icmp_ge (tgt := 30) hx hb dX0_spare_23 (by decide) (fun c4 => ?_) (fun c4 => ?_)
        · replace hf := (if_pos c4).symm.trans hf
          refine lv_iconst (v := 2) hx hb dX0_spare_30 (by decide) ?_
          refine lv_istore (lv' := [(4, .int (2 : Int32)), (0, .ref (ad t 1 0)), (1, .int w1), (2, .int w2), (3, .int w3)]) hx hb dX0_spare_31 hl (by decide) rfl (fun ls hl => ?_)
          refine lv_aload_n hx hb dX0_spare_33 rfl (lv_at hl 1 rfl) ?_
          refine x_get hx hb hts hown hK hW (hI.2 1 0 (by decide)) up_io (hI.1 1 0 _) rfl inX0 1 (by decide) t_262 rfl dX0_spare_34 ?_
          refine lv_iload hx hb dX0_spare_37 (lv_at hl 0 rfl) ?_
          refine lv_aload_n hx hb dX0_spare_39 rfl (lv_at hl 1 rfl) ?_
          refine x_get hx hb hts hown hK hW (hI.2 1 0 (by decide)) up_io (hI.1 1 0 _) rfl inX0 1 (by decide) t_262 rfl dX0_spare_40 ?_
          refine x_get hx hb hts hown hK hW (hI.2 3 0 (by decide)) up_io (hI.1 3 0 _) rfl inX5 0 (by decide) t_96 rfl dX0_spare_43 ?_
          refine lv_iload hx hb dX0_spare_46 (lv_at hl 0 rfl) ?_
          obtain ⟨hi5, hf⟩ := ck_some hf
          refine x_aald hx hb hK hW (hI.2 3 1 (by decide)) up_io (hI.1 3 1 _) hi5 dX0_spare_48 ?_
          refine lv_iconst (v := 0) hx hb dX0_spare_49 (by decide) ?_
          obtain ⟨hi6, hf⟩ := rd_some hf
          refine x_iald hx hb hK hW (hI.2 3 _ (x_lt (vp_lt hi5) (by decide))) up_io (hI.1 3 _ _) hi6 dX0_spare_50 ?_
          generalize S 3 (((2 : Int32)).toNatClampNeg + 6) ((0 : Int32)).toNatClampNeg = v7 at hf ⊢
          obtain ⟨g9, hc8, hf⟩ := bd_some hf
          replace hf := st_some hf
          have hC11 := f5_moveToLast_ok l D cy ad ns (va_up M t S) t 3 3 (by decide) (hI.at_3) (S 3) (2 : Int32) v7 g9 hc8
          rw [uI_gid, uI_grp] at hC11
          refine x_vv (n := 2) (As := [.int (2 : Int32), .int v7]) (rest := []) hx hb hml hts hown hK hW hA hC11 (hI.2 3 0 (by decide)) up_io (hI.1 3 0 _) rfl rfl t_426 t_427 t_428 t_6 t_429 rfl (by decide +kernel) rfl rfl ⟨Nat.le_of_ble_eq_true rfl, Nat.le_of_ble_eq_true rfl⟩ hl.1 rfl (lv_room (Nat.le_of_ble_eq_true rfl)) dX0_spare_51 ⟨(Nat.le_of_ble_eq_true rfl), (Nat.le_of_ble_eq_true rfl)⟩ (fun H locs hW => ?_)
          generalize (va_up S 3 g9) = S10 at hf hW
          refine lv_iinc (v := (w3 + (1 : Int32))) (lv' := [(3, .int (w3 + (1 : Int32))), (4, .int (2 : Int32)), (0, .ref (ad t 1 0)), (1, .int w1), (2, .int w2)]) hx hb dX0_spare_54 hl (k := 4) rfl (by first | rfl | decide) (by decide) rfl (fun ls hl => ?_)
          refine lv_goto (tgt := 16) hx hb dX0_spare_57 (by decide) ?_
          exact ih16 _ _ _ _ _ _ _ hf hW (lv_sub hl [2, 3, 4, 0] rfl)
        · replace hf := (if_neg c4).symm.trans hf
          refine lv_iconst (v := 1) hx hb dX0_spare_26 (by decide) ?_
          refine lv_goto (tgt := 31) hx hb dX0_spare_27 (by decide) ?_
          refine lv_istore (lv' := [(4, .int (1 : Int32)), (0, .ref (ad t 1 0)), (1, .int w1), (2, .int w2), (3, .int w3)]) hx hb dX0_spare_31 hl (by decide) rfl (fun ls hl => ?_)
          refine lv_aload_n hx hb dX0_spare_33 rfl (lv_at hl 1 rfl) ?_
          refine x_get hx hb hts hown hK hW (hI.2 1 0 (by decide)) up_io (hI.1 1 0 _) rfl inX0 1 (by decide) t_262 rfl dX0_spare_34 ?_
          refine lv_iload hx hb dX0_spare_37 (lv_at hl 0 rfl) ?_
          refine lv_aload_n hx hb dX0_spare_39 rfl (lv_at hl 1 rfl) ?_
          refine x_get hx hb hts hown hK hW (hI.2 1 0 (by decide)) up_io (hI.1 1 0 _) rfl inX0 1 (by decide) t_262 rfl dX0_spare_40 ?_
          refine x_get hx hb hts hown hK hW (hI.2 3 0 (by decide)) up_io (hI.1 3 0 _) rfl inX5 0 (by decide) t_96 rfl dX0_spare_43 ?_
          refine lv_iload hx hb dX0_spare_46 (lv_at hl 0 rfl) ?_
          obtain ⟨hi12, hf⟩ := ck_some hf
          refine x_aald hx hb hK hW (hI.2 3 1 (by decide)) up_io (hI.1 3 1 _) hi12 dX0_spare_48 ?_
          refine lv_iconst (v := 0) hx hb dX0_spare_49 (by decide) ?_
          obtain ⟨hi13, hf⟩ := rd_some hf
          refine x_iald hx hb hK hW (hI.2 3 _ (x_lt (vp_lt hi12) (by decide))) up_io (hI.1 3 _ _) hi13 dX0_spare_50 ?_
          generalize S 3 (((1 : Int32)).toNatClampNeg + 6) ((0 : Int32)).toNatClampNeg = v14 at hf ⊢
          obtain ⟨g16, hc15, hf⟩ := bd_some hf
          replace hf := st_some hf
          have hC18 := f5_moveToLast_ok l D cy ad ns (va_up M t S) t 3 3 (by decide) (hI.at_3) (S 3) (1 : Int32) v14 g16 hc15
          rw [uI_gid, uI_grp] at hC18
          refine x_vv (n := 2) (As := [.int (1 : Int32), .int v14]) (rest := []) hx hb hml hts hown hK hW hA hC18 (hI.2 3 0 (by decide)) up_io (hI.1 3 0 _) rfl rfl t_426 t_427 t_428 t_6 t_429 rfl (by decide +kernel) rfl rfl ⟨Nat.le_of_ble_eq_true rfl, Nat.le_of_ble_eq_true rfl⟩ hl.1 rfl (lv_room (Nat.le_of_ble_eq_true rfl)) dX0_spare_51 ⟨(Nat.le_of_ble_eq_true rfl), (Nat.le_of_ble_eq_true rfl)⟩ (fun H locs hW => ?_)
          generalize (va_up S 3 g16) = S17 at hf hW
          refine lv_iinc (v := (w3 + (1 : Int32))) (lv' := [(3, .int (w3 + (1 : Int32))), (4, .int (1 : Int32)), (0, .ref (ad t 1 0)), (1, .int w1), (2, .int w2)]) hx hb dX0_spare_54 hl (k := 4) rfl (by first | rfl | decide) (by decide) rfl (fun ls hl => ?_)
          refine lv_goto (tgt := 16) hx hb dX0_spare_57 (by decide) ?_
          exact ih16 _ _ _ _ _ _ _ hf hW (lv_sub hl [2, 3, 4, 0] rfl)
  exact L16 NF _ _ _ _ _ _ _ hf hW (lv_sub hl [2, 3, 1, 0] rfl)
def f0_judge_j82 (w1 : Int32) (w2 : Int32) (w3 : Int32) (S : Ob) : Option Ob :=
  (if w3 = w2 then ((f5_append 3 (1 : Int32) w1 (S 3)).bind (fun g27 => (st (va_up S 3 g27) (fun S28 => (some S28))))) else (st (va_up S 1 (va_up (S 1) 0 (upd (S 1 0) 5 ((S 1 0 5) + (1 : Int32))))) (fun S21 => (if (S21 1 0 3) = (1 : Int32) then ((f0_spare w2 S21).bind (fun S24 => (some S24))) else (some S21)))))
def f0_judge_b48 (rec48 : Int32 → Int32 → Int32 → Int32 → Ob → Option Ob) (w1 : Int32) (w2 : Int32) (w3 : Int32) (w4 : Int32) (S : Ob) : Option Ob :=
  (if w3 ≤ w4 then (f0_judge_j82 w1 w2 w3 S) else ((f0_victimAt S (0 : Int32)).bind (fun r12 => ((f5_takeOut 3 r12 (S 3)).bind (fun g15 => (st (va_up S 3 g15) (fun S16 => (st (va_up S16 1 (va_up (S16 1) 0 (upd (S16 1 0) 5 ((S16 1 0 5) + (1 : Int32))))) (fun S18 => (rec48 w1 w2 w3 (w4 + (1 : Int32)) S18))))))))))
def f0_judge_l48 : Nat → Int32 → Int32 → Int32 → Int32 → Ob → Option Ob
  | 0 => fun _ _ _ _ _ => none
  | k + 1 => f0_judge_b48 (f0_judge_l48 k)
def f0_judge (a1 : Int32) (S : Ob) : Option Ob :=
  (rd 100 (S 3 5) a1 (fun v2 => (if v2 ≤ ((S 1 0 2) - (S 1 0 4)) then ((f0_victimsNeeded S a1).bind (fun r5 => ((f0_victimsBeaten S a1 r5).bind (fun r8 => (f0_judge_l48 NF a1 r5 r8 (0 : Int32) S))))) else (st (va_up S 1 (va_up (S 1) 0 (upd (S 1 0) 5 ((S 1 0 5) + (1 : Int32))))) (fun S19 => (some S19))))))
set_option maxHeartbeats 4000000 in
set_option maxRecDepth 100000 in
theorem f0_judge_ok (l : Launch) (D : va_G) (cy : Nat → ClassId) (ad : Nat → Nat → Nat → Nat) (ns : List (Nat × Nat × Nat)) (M : Me) (t : Nat) (hI : IsSt cy ad ns t) (S : Ob) (a1 : Int32) (m2 : Ob)  (hf : f0_judge a1 S = some m2) : Cv l yX0_judge (.code yX0_judge cX0_judge 5 none :: tk_tb) { frames := 3, cells := 0, slots := 0, locals := 72 } D cy ad ns [.ref (ad t 1 0), .int a1] (va_up M t S) (va_up M t m2) := by
  refine Cv.of (by decide) (Nat.le_of_ble_eq_true rfl) ?_
  intro p e s m below meth c ls hE hW hl
  obtain ⟨hx, hb, hr, hml, hown, hts, hlk, hK⟩ := hE
  have hA : ∀ q : Nat, s.heap.size ≤ q → Aw ad ns s.heap.size q := fun q h => Or.inr h
  have hl : lv_has ls 5 [(0, .ref (ad t 1 0)), (1, .int a1)] := hl
  unfold f0_judge at hf
  have J82 : ∀ (w1 : Int32) (w2 : Int32) (w3 : Int32) (S : Ob) (H : Heap) (locs : List Loc) (ls : Array Slot), f0_judge_j82 w1 w2 w3 S = some m2 → Wl D cy ad ns (Aw ad ns s.heap.size) s.heap (va_up M t S) H locs → lv_has ls 5 [(0, .ref (ad t 1 0)), (1, .int w1), (2, .int w2), (3, .int w3)] → W p l e { frames := 3, cells := 0, slots := 0, locals := 72 } s m ([.ref (ad t 1 0), .int a1] : List Value).toArray below meth c H locs 0 0 (QV below D cy ad ns [.ref (ad t 1 0), .int a1] s (va_up M t m2)) (F0 m 82 ls []) := by
    intro w1 w2 w3 S H locs ls hf hW hl
    unfold f0_judge_j82 at hf
    refine lv_iload_n hx hb dX0_judge_82 rfl (lv_at hl 3 rfl) ?_
    refine lv_iload_n hx hb dX0_judge_83 rfl (lv_at hl 2 rfl) ?_
    refine lv_icmp_ne (tgt := 97) hx hb dX0_judge_84 (by decide) (fun c20 => ?_) (fun c20 => ?_)
    · replace hf := (if_neg c20).symm.trans hf
      refine lv_aload_n hx hb dX0_judge_97 rfl (lv_at hl 0 rfl) ?_
      refine lv_dup hx hb dX0_judge_98 rfl ?_
      refine x_get hx hb hts hown hK hW (hI.2 1 0 (by decide)) up_io (hI.1 1 0 _) rfl inX0 5 (by decide) t_269 rfl dX0_judge_99 ?_
      refine lv_iconst (v := 1) hx hb dX0_judge_102 (by decide) ?_
      refine lv_iadd hx hb dX0_judge_103 ?_
      replace hf := st_some hf
      refine x_put hx hb hts hown hK hW (hI.2 1 0 (by decide)) up_io (hI.1 1 0 _) rfl inX0 tyX0 tyX0_ok nmX0 5 (by decide) t_269 rfl rfl (Nat.le_of_ble_eq_true rfl) (hI.1 1 0 _) uC_grp dX0_judge_104 (fun H locs hW => ?_)
      generalize (va_up S 1 (va_up (S 1) 0 (upd (S 1 0) 5 ((S 1 0 5) + (1 : Int32))))) = S21 at hf hW
      refine lv_aload_n hx hb dX0_judge_107 rfl (lv_at hl 0 rfl) ?_
      refine x_get hx hb hts hown hK hW (hI.2 1 0 (by decide)) up_io (hI.1 1 0 _) rfl inX0 3 (by decide) t_266 rfl dX0_judge_108 ?_
      refine lv_iconst (v := 1) hx hb dX0_judge_111 (by decide) ?_
      refine lv_icmp_ne (tgt := 120) hx hb dX0_judge_112 (by decide) (fun c22 => ?_) (fun c22 => ?_)
      · replace hf := (if_neg c22).symm.trans hf
        exact x_vret hx hb hr hlk hK hW (congrArg (fun q => (va_up M t q)) (Option.some.inj hf)) dX0_judge_120
      · replace hf := (if_pos c22).symm.trans hf
        refine lv_aload_n hx hb dX0_judge_115 rfl (lv_at hl 0 rfl) ?_
        refine lv_iload_n hx hb dX0_judge_116 rfl (lv_at hl 2 rfl) ?_
        obtain ⟨S24, hc23, hf⟩ := bd_some hf
        have hC25 := f0_spare_ok l D cy ad ns M t hI S21 w2 S24 hc23
        refine x_vv (n := 1) (As := [.int w2]) (rest := []) hx hb hml hts hown hK hW hA hC25 (hI.2 1 0 (by decide)) up_io (hI.1 1 0 _) rfl rfl t_484 t_486 p_13 t_12 t_487 rfl (by decide +kernel) rfl rfl ⟨Nat.le_of_ble_eq_true rfl, Nat.le_of_ble_eq_true rfl⟩ hl.1 rfl (lv_room (Nat.le_of_ble_eq_true rfl)) dX0_judge_117 ⟨(Nat.le_of_ble_eq_true rfl), (Nat.le_of_ble_eq_true rfl)⟩ (fun H locs hW => ?_)
        exact x_vret hx hb hr hlk hK hW (congrArg (fun q => (va_up M t q)) (Option.some.inj hf)) dX0_judge_120
    · replace hf := (if_pos c20).symm.trans hf
      refine lv_aload_n hx hb dX0_judge_87 rfl (lv_at hl 0 rfl) ?_
      refine x_get hx hb hts hown hK hW (hI.2 1 0 (by decide)) up_io (hI.1 1 0 _) rfl inX0 1 (by decide) t_262 rfl dX0_judge_88 ?_
      refine lv_iconst (v := 1) hx hb dX0_judge_91 (by decide) ?_
      refine lv_iload_n hx hb dX0_judge_92 rfl (lv_at hl 1 rfl) ?_
      obtain ⟨g27, hc26, hf⟩ := bd_some hf
      replace hf := st_some hf
      have hC29 := f5_append_ok l D cy ad ns (va_up M t S) t 3 3 (by decide) (hI.at_3) (S 3) (1 : Int32) w1 g27 hc26
      rw [uI_gid, uI_grp] at hC29
      refine x_vv (n := 2) (As := [.int (1 : Int32), .int w1]) (rest := []) hx hb hml hts hown hK hW hA hC29 (hI.2 3 0 (by decide)) up_io (hI.1 3 0 _) rfl rfl t_483 t_435 t_436 t_6 t_437 rfl (by decide +kernel) rfl rfl ⟨Nat.le_of_ble_eq_true rfl, Nat.le_of_ble_eq_true rfl⟩ hl.1 rfl (lv_room (Nat.le_of_ble_eq_true rfl)) dX0_judge_93 ⟨(Nat.le_of_ble_eq_true rfl), (Nat.le_of_ble_eq_true rfl)⟩ (fun H locs hW => ?_)
      generalize (va_up S 3 g27) = S28 at hf hW
      exact x_vret hx hb hr hlk hK hW (congrArg (fun q => (va_up M t q)) (Option.some.inj hf)) dX0_judge_96
  refine lv_aload_n hx hb dX0_judge_0 rfl (lv_at hl 0 rfl) ?_
  refine x_get hx hb hts hown hK hW (hI.2 1 0 (by decide)) up_io (hI.1 1 0 _) rfl inX0 1 (by decide) t_262 rfl dX0_judge_1 ?_
  refine x_get hx hb hts hown hK hW (hI.2 3 0 (by decide)) up_io (hI.1 3 0 _) rfl inX5 4 (by decide) t_110 rfl dX0_judge_4 ?_
  refine lv_iload_n hx hb dX0_judge_7 rfl (lv_at hl 1 rfl) ?_
  obtain ⟨hi1, hf⟩ := rd_some hf
  refine x_iald hx hb hK hW (hI.2 3 5 (by decide)) up_io (hI.1 3 5 _) hi1 dX0_judge_8 ?_
  generalize S 3 5 (a1).toNatClampNeg = v2 at hf ⊢
  refine lv_aload_n hx hb dX0_judge_9 rfl (lv_at hl 0 rfl) ?_
  refine x_get hx hb hts hown hK hW (hI.2 1 0 (by decide)) up_io (hI.1 1 0 _) rfl inX0 2 (by decide) t_265 rfl dX0_judge_10 ?_
  refine lv_aload_n hx hb dX0_judge_13 rfl (lv_at hl 0 rfl) ?_
  refine x_get hx hb hts hown hK hW (hI.2 1 0 (by decide)) up_io (hI.1 1 0 _) rfl inX0 4 (by decide) t_267 rfl dX0_judge_14 ?_
  refine lv_isub hx hb dX0_judge_17 ?_
  refine lv_icmp_le (tgt := 32) hx hb dX0_judge_18 (by decide) (fun c3 => ?_) (fun c3 => ?_)
  · replace hf := (if_pos c3).symm.trans hf
    refine lv_aload_n hx hb dX0_judge_32 rfl (lv_at hl 0 rfl) ?_
    refine lv_iload_n hx hb dX0_judge_33 rfl (lv_at hl 1 rfl) ?_
    obtain ⟨r5, hc4, hf⟩ := bd_some hf
    have hC6 := f0_victimsNeeded_ok l D cy ad ns M t hI S a1 r5 hc4
    refine x_vi (n := 1) (As := [.int a1]) (rest := []) hx hb hml hts hown hK hW hA hC6 (hI.2 1 0 (by decide)) up_io (hI.1 1 0 _) rfl rfl t_454 t_456 p_8 t_12 t_457 rfl (by decide +kernel) rfl rfl ⟨Nat.le_of_ble_eq_true rfl, Nat.le_of_ble_eq_true rfl⟩ hl.1 rfl (lv_room (Nat.le_of_ble_eq_true rfl)) dX0_judge_34 ⟨(Nat.le_of_ble_eq_true rfl), (Nat.le_of_ble_eq_true rfl)⟩ (fun H locs hW => ?_)
    refine lv_istore_n (lv' := [(2, .int r5), (0, .ref (ad t 1 0)), (1, .int a1)]) hx hb dX0_judge_37 rfl hl (by decide) rfl (fun ls hl => ?_)
    refine lv_aload_n hx hb dX0_judge_38 rfl (lv_at hl 1 rfl) ?_
    refine lv_iload_n hx hb dX0_judge_39 rfl (lv_at hl 2 rfl) ?_
    refine lv_iload_n hx hb dX0_judge_40 rfl (lv_at hl 0 rfl) ?_
    obtain ⟨r8, hc7, hf⟩ := bd_some hf
    have hC9 := f0_victimsBeaten_ok l D cy ad ns M t hI S a1 r5 r8 hc7
    refine x_vi (n := 2) (As := [.int a1, .int r5]) (rest := []) hx hb hml hts hown hK hW hA hC9 (hI.2 1 0 (by decide)) up_io (hI.1 1 0 _) rfl rfl t_474 t_476 p_12 t_12 t_477 rfl (by decide +kernel) rfl rfl ⟨Nat.le_of_ble_eq_true rfl, Nat.le_of_ble_eq_true rfl⟩ hl.1 rfl (lv_room (Nat.le_of_ble_eq_true rfl)) dX0_judge_41 ⟨(Nat.le_of_ble_eq_true rfl), (Nat.le_of_ble_eq_true rfl)⟩ (fun H locs hW => ?_)
    refine lv_istore_n (lv' := [(3, .int r8), (2, .int r5), (0, .ref (ad t 1 0)), (1, .int a1)]) hx hb dX0_judge_44 rfl hl (by decide) rfl (fun ls hl => ?_)
    refine lv_iconst (v := 0) hx hb dX0_judge_45 (by decide) ?_
    refine lv_istore (lv' := [(4, .int (0 : Int32)), (3, .int r8), (2, .int r5), (0, .ref (ad t 1 0)), (1, .int a1)]) hx hb dX0_judge_46 hl (by decide) rfl (fun ls hl => ?_)
    have L48 : ∀ (k : Nat) (w1 : Int32) (w2 : Int32) (w3 : Int32) (w4 : Int32) (S : Ob) (H : Heap) (locs : List Loc) (ls : Array Slot), f0_judge_l48 k w1 w2 w3 w4 S = some m2 → Wl D cy ad ns (Aw ad ns s.heap.size) s.heap (va_up M t S) H locs → lv_has ls 5 [(0, .ref (ad t 1 0)), (1, .int w1), (2, .int w2), (3, .int w3), (4, .int w4)] → W p l e { frames := 3, cells := 0, slots := 0, locals := 72 } s m ([.ref (ad t 1 0), .int a1] : List Value).toArray below meth c H locs 0 0 (QV below D cy ad ns [.ref (ad t 1 0), .int a1] s (va_up M t m2)) (F0 m 48 ls []) := by
      intro k
      induction k with
      | zero => intro w1 w2 w3 w4 S H locs ls hf; exact absurd hf (by simp [f0_judge_l48])
      | succ k48 ih48 =>
        intro w1 w2 w3 w4 S H locs ls hf hW hl
        have hf : f0_judge_b48 (f0_judge_l48 k48) w1 w2 w3 w4 S = some m2 := hf
        unfold f0_judge_b48 at hf
        refine lv_iload hx hb dX0_judge_48 (lv_at hl 4 rfl) ?_
        refine lv_iload_n hx hb dX0_judge_50 rfl (lv_at hl 3 rfl) ?_
        refine lv_icmp_ge (tgt := 82) hx hb dX0_judge_51 (by decide) (fun c10 => ?_) (fun c10 => ?_)
        · replace hf := (if_pos c10).symm.trans hf
          exact J82 _ _ _ _ _ _ _ hf hW (lv_sub hl [0, 1, 2, 3] rfl)
        · replace hf := (if_neg c10).symm.trans hf
          refine lv_aload_n hx hb dX0_judge_54 rfl (lv_at hl 0 rfl) ?_
          refine x_get hx hb hts hown hK hW (hI.2 1 0 (by decide)) up_io (hI.1 1 0 _) rfl inX0 1 (by decide) t_262 rfl dX0_judge_55 ?_
          refine lv_aload_n hx hb dX0_judge_58 rfl (lv_at hl 0 rfl) ?_
          refine lv_iconst (v := 0) hx hb dX0_judge_59 (by decide) ?_
          obtain ⟨r12, hc11, hf⟩ := bd_some hf
          have hC13 := f0_victimAt_ok l D cy ad ns M t hI S (0 : Int32) r12 hc11
          refine x_vi (n := 1) (As := [.int (0 : Int32)]) (rest := [.ref (ad t 3 0)]) hx hb hml hts hown hK hW hA hC13 (hI.2 1 0 (by decide)) up_io (hI.1 1 0 _) rfl rfl t_466 t_468 p_11 t_12 t_469 rfl (by decide +kernel) rfl rfl ⟨Nat.le_of_ble_eq_true rfl, Nat.le_of_ble_eq_true rfl⟩ hl.1 rfl (lv_room (Nat.le_of_ble_eq_true rfl)) dX0_judge_60 ⟨(Nat.le_of_ble_eq_true rfl), (Nat.le_of_ble_eq_true rfl)⟩ (fun H locs hW => ?_)
          obtain ⟨g15, hc14, hf⟩ := bd_some hf
          replace hf := st_some hf
          have hC17 := f5_takeOut_ok l D cy ad ns (va_up M t S) t 3 3 (by decide) (hI.at_3) (S 3) r12 g15 hc14
          rw [uI_gid, uI_grp] at hC17
          refine x_vv (n := 1) (As := [.int r12]) (rest := []) hx hb hml hts hown hK hW hA hC17 (hI.2 3 0 (by decide)) up_io (hI.1 3 0 _) rfl rfl t_482 t_431 t_432 t_6 t_433 rfl (by decide +kernel) rfl rfl ⟨Nat.le_of_ble_eq_true rfl, Nat.le_of_ble_eq_true rfl⟩ hl.1 rfl (lv_room (Nat.le_of_ble_eq_true rfl)) dX0_judge_63 ⟨(Nat.le_of_ble_eq_true rfl), (Nat.le_of_ble_eq_true rfl)⟩ (fun H locs hW => ?_)
          generalize (va_up S 3 g15) = S16 at hf hW
          refine lv_aload_n hx hb dX0_judge_66 rfl (lv_at hl 0 rfl) ?_
          refine lv_dup hx hb dX0_judge_67 rfl ?_
          refine x_get hx hb hts hown hK hW (hI.2 1 0 (by decide)) up_io (hI.1 1 0 _) rfl inX0 5 (by decide) t_269 rfl dX0_judge_68 ?_
          refine lv_iconst (v := 1) hx hb dX0_judge_71 (by decide) ?_
          refine lv_iadd hx hb dX0_judge_72 ?_
          replace hf := st_some hf
          refine x_put hx hb hts hown hK hW (hI.2 1 0 (by decide)) up_io (hI.1 1 0 _) rfl inX0 tyX0 tyX0_ok nmX0 5 (by decide) t_269 rfl rfl (Nat.le_of_ble_eq_true rfl) (hI.1 1 0 _) uC_grp dX0_judge_73 (fun H locs hW => ?_)
          generalize (va_up S16 1 (va_up (S16 1) 0 (upd (S16 1 0) 5 ((S16 1 0 5) + (1 : Int32))))) = S18 at hf hW
          refine lv_iinc (v := (w4 + (1 : Int32))) (lv' := [(4, .int (w4 + (1 : Int32))), (0, .ref (ad t 1 0)), (1, .int w1), (2, .int w2), (3, .int w3)]) hx hb dX0_judge_76 hl (k := 4) rfl (by first | rfl | decide) (by decide) rfl (fun ls hl => ?_)
          refine lv_goto (tgt := 48) hx hb dX0_judge_79 (by decide) ?_
          exact ih48 _ _ _ _ _ _ _ _ hf hW (lv_sub hl [1, 2, 3, 4, 0] rfl)
    exact L48 NF _ _ _ _ _ _ _ _ hf hW (lv_sub hl [3, 4, 2, 1, 0] rfl)
  · replace hf := (if_neg c3).symm.trans hf
    refine lv_aload_n hx hb dX0_judge_21 rfl (lv_at hl 0 rfl) ?_
    refine lv_dup hx hb dX0_judge_22 rfl ?_
    refine x_get hx hb hts hown hK hW (hI.2 1 0 (by decide)) up_io (hI.1 1 0 _) rfl inX0 5 (by decide) t_269 rfl dX0_judge_23 ?_
    refine lv_iconst (v := 1) hx hb dX0_judge_26 (by decide) ?_
    refine lv_iadd hx hb dX0_judge_27 ?_
    replace hf := st_some hf
    refine x_put hx hb hts hown hK hW (hI.2 1 0 (by decide)) up_io (hI.1 1 0 _) rfl inX0 tyX0 tyX0_ok nmX0 5 (by decide) t_269 rfl rfl (Nat.le_of_ble_eq_true rfl) (hI.1 1 0 _) uC_grp dX0_judge_28 (fun H locs hW => ?_)
    generalize (va_up S 1 (va_up (S 1) 0 (upd (S 1 0) 5 ((S 1 0 5) + (1 : Int32))))) = S19 at hf hW
    exact x_vret hx hb hr hlk hK hW (congrArg (fun q => (va_up M t q)) (Option.some.inj hf)) dX0_judge_31
def f0_bringIn (a1 : Int32) (S : Ob) : Option Ob :=
  (rd 100 (S 3 5) a1 (fun v2 => (if v2 ≤ (S 1 0 2) then (if v2 ≤ (S 1 0 4) then ((f5_append 3 (0 : Int32) a1 (S 3)).bind (fun g6 => (st (va_up S 3 g6) (fun S7 => (some S7))))) else ((f0_judge a1 S).bind (fun S10 => (some S10)))) else (some S))))
set_option maxHeartbeats 4000000 in
set_option maxRecDepth 100000 in
theorem f0_bringIn_ok (l : Launch) (D : va_G) (cy : Nat → ClassId) (ad : Nat → Nat → Nat → Nat) (ns : List (Nat × Nat × Nat)) (M : Me) (t : Nat) (hI : IsSt cy ad ns t) (S : Ob) (a1 : Int32) (m2 : Ob)  (hf : f0_bringIn a1 S = some m2) : Cv l yX0_bringIn (.code yX0_bringIn cX0_bringIn 3 none :: tk_tb) { frames := 4, cells := 0, slots := 0, locals := 96 } D cy ad ns [.ref (ad t 1 0), .int a1] (va_up M t S) (va_up M t m2) := by
  refine Cv.of (by decide) (Nat.le_of_ble_eq_true rfl) ?_
  intro p e s m below meth c ls hE hW hl
  obtain ⟨hx, hb, hr, hml, hown, hts, hlk, hK⟩ := hE
  have hA : ∀ q : Nat, s.heap.size ≤ q → Aw ad ns s.heap.size q := fun q h => Or.inr h
  have hl : lv_has ls 3 [(0, .ref (ad t 1 0)), (1, .int a1)] := hl
  unfold f0_bringIn at hf
  refine lv_aload_n hx hb dX0_bringIn_0 rfl (lv_at hl 0 rfl) ?_
  refine x_get hx hb hts hown hK hW (hI.2 1 0 (by decide)) up_io (hI.1 1 0 _) rfl inX0 1 (by decide) t_262 rfl dX0_bringIn_1 ?_
  refine x_get hx hb hts hown hK hW (hI.2 3 0 (by decide)) up_io (hI.1 3 0 _) rfl inX5 4 (by decide) t_110 rfl dX0_bringIn_4 ?_
  refine lv_iload_n hx hb dX0_bringIn_7 rfl (lv_at hl 1 rfl) ?_
  obtain ⟨hi1, hf⟩ := rd_some hf
  refine x_iald hx hb hK hW (hI.2 3 5 (by decide)) up_io (hI.1 3 5 _) hi1 dX0_bringIn_8 ?_
  generalize S 3 5 (a1).toNatClampNeg = v2 at hf ⊢
  refine lv_istore_n (lv' := [(2, .int v2), (0, .ref (ad t 1 0)), (1, .int a1)]) hx hb dX0_bringIn_9 rfl hl (by decide) rfl (fun ls hl => ?_)
  refine lv_iload_n hx hb dX0_bringIn_10 rfl (lv_at hl 0 rfl) ?_
  refine lv_aload_n hx hb dX0_bringIn_11 rfl (lv_at hl 1 rfl) ?_
  refine x_get hx hb hts hown hK hW (hI.2 1 0 (by decide)) up_io (hI.1 1 0 _) rfl inX0 2 (by decide) t_265 rfl dX0_bringIn_12 ?_
  refine lv_icmp_le (tgt := 19) hx hb dX0_bringIn_15 (by decide) (fun c3 => ?_) (fun c3 => ?_)
  · replace hf := (if_pos c3).symm.trans hf
    refine lv_iload_n hx hb dX0_bringIn_19 rfl (lv_at hl 0 rfl) ?_
    refine lv_aload_n hx hb dX0_bringIn_20 rfl (lv_at hl 1 rfl) ?_
    refine x_get hx hb hts hown hK hW (hI.2 1 0 (by decide)) up_io (hI.1 1 0 _) rfl inX0 4 (by decide) t_267 rfl dX0_bringIn_21 ?_
    refine lv_icmp_le (tgt := 35) hx hb dX0_bringIn_24 (by decide) (fun c4 => ?_) (fun c4 => ?_)
    · replace hf := (if_pos c4).symm.trans hf
      refine lv_aload_n hx hb dX0_bringIn_35 rfl (lv_at hl 1 rfl) ?_
      refine x_get hx hb hts hown hK hW (hI.2 1 0 (by decide)) up_io (hI.1 1 0 _) rfl inX0 1 (by decide) t_262 rfl dX0_bringIn_36 ?_
      refine lv_iconst (v := 0) hx hb dX0_bringIn_39 (by decide) ?_
      refine lv_iload_n hx hb dX0_bringIn_40 rfl (lv_at hl 2 rfl) ?_
      obtain ⟨g6, hc5, hf⟩ := bd_some hf
      replace hf := st_some hf
      have hC8 := f5_append_ok l D cy ad ns (va_up M t S) t 3 3 (by decide) (hI.at_3) (S 3) (0 : Int32) a1 g6 hc5
      rw [uI_gid, uI_grp] at hC8
      refine x_vv (n := 2) (As := [.int (0 : Int32), .int a1]) (rest := []) hx hb hml hts hown hK hW hA hC8 (hI.2 3 0 (by decide)) up_io (hI.1 3 0 _) rfl rfl t_483 t_435 t_436 t_6 t_437 rfl (by decide +kernel) rfl rfl ⟨Nat.le_of_ble_eq_true rfl, Nat.le_of_ble_eq_true rfl⟩ hl.1 rfl (lv_room (Nat.le_of_ble_eq_true rfl)) dX0_bringIn_41 ⟨(Nat.le_of_ble_eq_true rfl), (Nat.le_of_ble_eq_true rfl)⟩ (fun H locs hW => ?_)
      generalize (va_up S 3 g6) = S7 at hf hW
      exact x_vret hx hb hr hlk hK hW (congrArg (fun q => (va_up M t q)) (Option.some.inj hf)) dX0_bringIn_44
    · replace hf := (if_neg c4).symm.trans hf
      refine lv_aload_n hx hb dX0_bringIn_27 rfl (lv_at hl 1 rfl) ?_
      refine lv_iload_n hx hb dX0_bringIn_28 rfl (lv_at hl 2 rfl) ?_
      obtain ⟨S10, hc9, hf⟩ := bd_some hf
      have hC11 := f0_judge_ok l D cy ad ns M t hI S a1 S10 hc9
      refine x_vv (n := 1) (As := [.int a1]) (rest := []) hx hb hml hts hown hK hW hA hC11 (hI.2 1 0 (by decide)) up_io (hI.1 1 0 _) rfl rfl t_450 t_452 p_7 t_12 t_453 rfl (by decide +kernel) rfl rfl ⟨Nat.le_of_ble_eq_true rfl, Nat.le_of_ble_eq_true rfl⟩ hl.1 rfl (lv_room (Nat.le_of_ble_eq_true rfl)) dX0_bringIn_29 ⟨(Nat.le_of_ble_eq_true rfl), (Nat.le_of_ble_eq_true rfl)⟩ (fun H locs hW => ?_)
      refine lv_goto (tgt := 44) hx hb dX0_bringIn_32 (by decide) ?_
      exact x_vret hx hb hr hlk hK hW (congrArg (fun q => (va_up M t q)) (Option.some.inj hf)) dX0_bringIn_44
  · replace hf := (if_neg c3).symm.trans hf
    exact x_vret hx hb hr hlk hK hW (congrArg (fun q => (va_up M t q)) (Option.some.inj hf)) dX0_bringIn_18
def f0_overflow_b10 (rec10 : Int32 → Ob → Option Ob) (w1 : Int32) (S : Ob) : Option Ob :=
  (if w1 ≤ 0 then (some S) else (rd 3 (S 3 3) (0 : Int32) (fun v5 => (if (S 1 0 4) < v5 then (ck 3 (0 : Int32) (rd 100 (S 3 (((0 : Int32)).toNatClampNeg + 6)) (0 : Int32) (fun v9 => ((f5_takeOut 3 v9 (S 3)).bind (fun g11 => (st (va_up S 3 g11) (fun S12 => ((f0_judge v9 S12).bind (fun S15 => (rec10 (w1 + (-1 : Int32)) S15)))))))))) else (some S)))))
def f0_overflow_l10 : Nat → Int32 → Ob → Option Ob
  | 0 => fun _ _ => none
  | k + 1 => f0_overflow_b10 (f0_overflow_l10 k)
def f0_overflow (S : Ob) : Option Ob :=
  (rd 3 (S 3 2) (0 : Int32) (fun v2 => (f0_overflow_l10 NF v2 S)))
set_option maxHeartbeats 4000000 in
set_option maxRecDepth 100000 in
theorem f0_overflow_ok (l : Launch) (D : va_G) (cy : Nat → ClassId) (ad : Nat → Nat → Nat → Nat) (ns : List (Nat × Nat × Nat)) (M : Me) (t : Nat) (hI : IsSt cy ad ns t) (S : Ob) (m2 : Ob)  (hf : f0_overflow S = some m2) : Cv l yX0_overflow (.code yX0_overflow cX0_overflow 3 none :: tk_tb) { frames := 4, cells := 0, slots := 0, locals := 96 } D cy ad ns [.ref (ad t 1 0)] (va_up M t S) (va_up M t m2) := by
  refine Cv.of (by decide) (Nat.le_of_ble_eq_true rfl) ?_
  intro p e s m below meth c ls hE hW hl
  obtain ⟨hx, hb, hr, hml, hown, hts, hlk, hK⟩ := hE
  have hA : ∀ q : Nat, s.heap.size ≤ q → Aw ad ns s.heap.size q := fun q h => Or.inr h
  have hl : lv_has ls 3 [(0, .ref (ad t 1 0))] := hl
  unfold f0_overflow at hf
  refine lv_aload_n hx hb dX0_overflow_0 rfl (lv_at hl 0 rfl) ?_
  refine x_get hx hb hts hown hK hW (hI.2 1 0 (by decide)) up_io (hI.1 1 0 _) rfl inX0 1 (by decide) t_262 rfl dX0_overflow_1 ?_
  refine x_get hx hb hts hown hK hW (hI.2 3 0 (by decide)) up_io (hI.1 3 0 _) rfl inX5 1 (by decide) t_99 rfl dX0_overflow_4 ?_
  refine lv_iconst (v := 0) hx hb dX0_overflow_7 (by decide) ?_
  obtain ⟨hi1, hf⟩ := rd_some hf
  refine x_iald hx hb hK hW (hI.2 3 2 (by decide)) up_io (hI.1 3 2 _) hi1 dX0_overflow_8 ?_
  generalize S 3 2 ((0 : Int32)).toNatClampNeg = v2 at hf ⊢
  refine lv_istore_n (lv' := [(1, .int v2), (0, .ref (ad t 1 0))]) hx hb dX0_overflow_9 rfl hl (by decide) rfl (fun ls hl => ?_)
  have L10 : ∀ (k : Nat) (w1 : Int32) (S : Ob) (H : Heap) (locs : List Loc) (ls : Array Slot), f0_overflow_l10 k w1 S = some m2 → Wl D cy ad ns (Aw ad ns s.heap.size) s.heap (va_up M t S) H locs → lv_has ls 3 [(0, .ref (ad t 1 0)), (1, .int w1)] → W p l e { frames := 4, cells := 0, slots := 0, locals := 96 } s m ([.ref (ad t 1 0)] : List Value).toArray below meth c H locs 0 0 (QV below D cy ad ns [.ref (ad t 1 0)] s (va_up M t m2)) (F0 m 10 ls []) := by
    intro k
    induction k with
    | zero => intro w1 S H locs ls hf; exact absurd hf (by simp [f0_overflow_l10])
    | succ k10 ih10 =>
      intro w1 S H locs ls hf hW hl
      have hf : f0_overflow_b10 (f0_overflow_l10 k10) w1 S = some m2 := hf
      unfold f0_overflow_b10 at hf
      refine lv_iload_n hx hb dX0_overflow_10 rfl (lv_at hl 1 rfl) ?_
      refine lv_if_le (tgt := 62) hx hb dX0_overflow_11 (by decide) (fun c3 => ?_) (fun c3 => ?_)
      · replace hf := (if_pos c3).symm.trans hf
        exact x_vret hx hb hr hlk hK hW (congrArg (fun q => (va_up M t q)) (Option.some.inj hf)) dX0_overflow_62
      · replace hf := (if_neg c3).symm.trans hf
        refine lv_aload_n hx hb dX0_overflow_14 rfl (lv_at hl 0 rfl) ?_
        refine x_get hx hb hts hown hK hW (hI.2 1 0 (by decide)) up_io (hI.1 1 0 _) rfl inX0 1 (by decide) t_262 rfl dX0_overflow_15 ?_
        refine x_get hx hb hts hown hK hW (hI.2 3 0 (by decide)) up_io (hI.1 3 0 _) rfl inX5 2 (by decide) t_102 rfl dX0_overflow_18 ?_
        refine lv_iconst (v := 0) hx hb dX0_overflow_21 (by decide) ?_
        obtain ⟨hi4, hf⟩ := rd_some hf
        refine x_iald hx hb hK hW (hI.2 3 3 (by decide)) up_io (hI.1 3 3 _) hi4 dX0_overflow_22 ?_
        generalize S 3 3 ((0 : Int32)).toNatClampNeg = v5 at hf ⊢
        refine lv_aload_n hx hb dX0_overflow_23 rfl (lv_at hl 0 rfl) ?_
        refine x_get hx hb hts hown hK hW (hI.2 1 0 (by decide)) up_io (hI.1 1 0 _) rfl inX0 4 (by decide) t_267 rfl dX0_overflow_24 ?_
        refine lv_icmp_gt (tgt := 31) hx hb dX0_overflow_27 (by decide) (fun c6 => ?_) (fun c6 => ?_)
        · replace hf := (if_pos c6).symm.trans hf
          refine lv_aload_n hx hb dX0_overflow_31 rfl (lv_at hl 0 rfl) ?_
          refine x_get hx hb hts hown hK hW (hI.2 1 0 (by decide)) up_io (hI.1 1 0 _) rfl inX0 1 (by decide) t_262 rfl dX0_overflow_32 ?_
          refine x_get hx hb hts hown hK hW (hI.2 3 0 (by decide)) up_io (hI.1 3 0 _) rfl inX5 0 (by decide) t_96 rfl dX0_overflow_35 ?_
          refine lv_iconst (v := 0) hx hb dX0_overflow_38 (by decide) ?_
          obtain ⟨hi7, hf⟩ := ck_some hf
          refine x_aald hx hb hK hW (hI.2 3 1 (by decide)) up_io (hI.1 3 1 _) hi7 dX0_overflow_39 ?_
          refine lv_iconst (v := 0) hx hb dX0_overflow_40 (by decide) ?_
          obtain ⟨hi8, hf⟩ := rd_some hf
          refine x_iald hx hb hK hW (hI.2 3 _ (x_lt (vp_lt hi7) (by decide))) up_io (hI.1 3 _ _) hi8 dX0_overflow_41 ?_
          generalize S 3 (((0 : Int32)).toNatClampNeg + 6) ((0 : Int32)).toNatClampNeg = v9 at hf ⊢
          refine lv_istore_n (lv' := [(2, .int v9), (0, .ref (ad t 1 0)), (1, .int w1)]) hx hb dX0_overflow_42 rfl hl (by decide) rfl (fun ls hl => ?_)
          refine lv_aload_n hx hb dX0_overflow_43 rfl (lv_at hl 1 rfl) ?_
          refine x_get hx hb hts hown hK hW (hI.2 1 0 (by decide)) up_io (hI.1 1 0 _) rfl inX0 1 (by decide) t_262 rfl dX0_overflow_44 ?_
          refine lv_iload_n hx hb dX0_overflow_47 rfl (lv_at hl 0 rfl) ?_
          obtain ⟨g11, hc10, hf⟩ := bd_some hf
          replace hf := st_some hf
          have hC13 := f5_takeOut_ok l D cy ad ns (va_up M t S) t 3 3 (by decide) (hI.at_3) (S 3) v9 g11 hc10
          rw [uI_gid, uI_grp] at hC13
          refine x_vv (n := 1) (As := [.int v9]) (rest := []) hx hb hml hts hown hK hW hA hC13 (hI.2 3 0 (by decide)) up_io (hI.1 3 0 _) rfl rfl t_482 t_431 t_432 t_6 t_433 rfl (by decide +kernel) rfl rfl ⟨Nat.le_of_ble_eq_true rfl, Nat.le_of_ble_eq_true rfl⟩ hl.1 rfl (lv_room (Nat.le_of_ble_eq_true rfl)) dX0_overflow_48 ⟨(Nat.le_of_ble_eq_true rfl), (Nat.le_of_ble_eq_true rfl)⟩ (fun H locs hW => ?_)
          generalize (va_up S 3 g11) = S12 at hf hW
          refine lv_aload_n hx hb dX0_overflow_51 rfl (lv_at hl 1 rfl) ?_
          refine lv_iload_n hx hb dX0_overflow_52 rfl (lv_at hl 0 rfl) ?_
          obtain ⟨S15, hc14, hf⟩ := bd_some hf
          have hC16 := f0_judge_ok l D cy ad ns M t hI S12 v9 S15 hc14
          refine x_vv (n := 1) (As := [.int v9]) (rest := []) hx hb hml hts hown hK hW hA hC16 (hI.2 1 0 (by decide)) up_io (hI.1 1 0 _) rfl rfl t_450 t_452 p_7 t_12 t_453 rfl (by decide +kernel) rfl rfl ⟨Nat.le_of_ble_eq_true rfl, Nat.le_of_ble_eq_true rfl⟩ hl.1 rfl (lv_room (Nat.le_of_ble_eq_true rfl)) dX0_overflow_53 ⟨(Nat.le_of_ble_eq_true rfl), (Nat.le_of_ble_eq_true rfl)⟩ (fun H locs hW => ?_)
          refine lv_iinc (v := (w1 + (-1 : Int32))) (lv' := [(1, .int (w1 + (-1 : Int32))), (2, .int v9), (0, .ref (ad t 1 0))]) hx hb dX0_overflow_56 hl (k := 2) rfl (by first | rfl | decide) (by decide) rfl (fun ls hl => ?_)
          refine lv_goto (tgt := 10) hx hb dX0_overflow_59 (by decide) ?_
          exact ih10 _ _ _ _ _ hf hW (lv_sub hl [2, 0] rfl)
        · replace hf := (if_neg c6).symm.trans hf
          exact x_vret hx hb hr hlk hK hW (congrArg (fun q => (va_up M t q)) (Option.some.inj hf)) dX0_overflow_30
  exact L10 NF _ _ _ _ _ hf hW (lv_sub hl [1, 0] rfl)
def f0_resize_b27 (rec27 : Int32 → Ob → Option Ob) (w2 : Int32) (S : Ob) : Option Ob :=
  (if w2 ≤ 0 then (some S) else ((f0_unitsInMain S).bind (fun r10 => (if ((S 1 0 2) - (S 1 0 4)) < r10 then ((f0_victimAt S (0 : Int32)).bind (fun r14 => ((f5_moveToLast 3 (0 : Int32) r14 (S 3)).bind (fun g17 => (st (va_up S 3 g17) (fun S18 => (rec27 (w2 + (-1 : Int32)) S18))))))) else (some S)))))
def f0_resize_l27 : Nat → Int32 → Ob → Option Ob
  | 0 => fun _ _ => none
  | k + 1 => f0_resize_b27 (f0_resize_l27 k)
def f0_resize (a1 : Int32) (S : Ob) : Option Ob :=
  (st (va_up S 1 (va_up (S 1) 0 (upd (S 1 0) 4 (if (1 : Int32) < (if a1 < ((S 1 0 2) - (1 : Int32)) then a1 else ((S 1 0 2) - (1 : Int32))) then (if a1 < ((S 1 0 2) - (1 : Int32)) then a1 else ((S 1 0 2) - (1 : Int32))) else (1 : Int32))))) (fun S1 => ((f0_settle S1).bind (fun S3 => ((f0_keysInMain S3).bind (fun r6 => (f0_resize_l27 NF r6 S3)))))))
set_option maxHeartbeats 4000000 in
set_option maxRecDepth 100000 in
theorem f0_resize_ok (l : Launch) (D : va_G) (cy : Nat → ClassId) (ad : Nat → Nat → Nat → Nat) (ns : List (Nat × Nat × Nat)) (M : Me) (t : Nat) (hI : IsSt cy ad ns t) (S : Ob) (a1 : Int32) (m2 : Ob)  (hf : f0_resize a1 S = some m2) : Cv l yX0_resize (.code yX0_resize cX0_resize 3 none :: tk_tb) { frames := 3, cells := 0, slots := 0, locals := 70 } D cy ad ns [.ref (ad t 1 0), .int a1] (va_up M t S) (va_up M t m2) := by
  refine Cv.of (by decide) (Nat.le_of_ble_eq_true rfl) ?_
  intro p e s m below meth c ls hE hW hl
  obtain ⟨hx, hb, hr, hml, hown, hts, hlk, hK⟩ := hE
  have hA : ∀ q : Nat, s.heap.size ≤ q → Aw ad ns s.heap.size q := fun q h => Or.inr h
  have hl : lv_has ls 3 [(0, .ref (ad t 1 0)), (1, .int a1)] := hl
  unfold f0_resize at hf
  refine lv_aload_n hx hb dX0_resize_0 rfl (lv_at hl 0 rfl) ?_
  refine lv_iconst (v := 1) hx hb dX0_resize_1 (by decide) ?_
  refine lv_aload_n hx hb dX0_resize_2 rfl (lv_at hl 0 rfl) ?_
  refine x_get hx hb hts hown hK hW (hI.2 1 0 (by decide)) up_io (hI.1 1 0 _) rfl inX0 2 (by decide) t_265 rfl dX0_resize_3 ?_
  refine lv_iconst (v := 1) hx hb dX0_resize_6 (by decide) ?_
  refine lv_isub hx hb dX0_resize_7 ?_
  refine lv_iload_n hx hb dX0_resize_8 rfl (lv_at hl 1 rfl) ?_
  refine va_mmin hx hb (hml.trans hl.1.symm) hown (hts _ t_488) (hts _ t_149) (hts _ t_7) (hts _ t_150) (Nat.le_of_ble_eq_true rfl) (Nat.le_of_ble_eq_true rfl) (Nat.zero_le _) (Nat.zero_le _) dX0_resize_9 ?_
  refine va_mmax hx hb (hml.trans hl.1.symm) hown (hts _ t_501) (hts _ t_88) (hts _ t_7) (hts _ t_89) (Nat.le_of_ble_eq_true rfl) (Nat.le_of_ble_eq_true rfl) (Nat.zero_le _) (Nat.zero_le _) dX0_resize_12 ?_
  replace hf := st_some hf
  refine x_put hx hb hts hown hK hW (hI.2 1 0 (by decide)) up_io (hI.1 1 0 _) rfl inX0 tyX0 tyX0_ok nmX0 4 (by decide) t_267 rfl rfl (Nat.le_of_ble_eq_true rfl) (hI.1 1 0 _) uC_grp dX0_resize_15 (fun H locs hW => ?_)
  generalize (va_up S 1 (va_up (S 1) 0 (upd (S 1 0) 4 (if (1 : Int32) < (if a1 < ((S 1 0 2) - (1 : Int32)) then a1 else ((S 1 0 2) - (1 : Int32))) then (if a1 < ((S 1 0 2) - (1 : Int32)) then a1 else ((S 1 0 2) - (1 : Int32))) else (1 : Int32))))) = S1 at hf hW
  refine lv_aload_n hx hb dX0_resize_18 rfl (lv_at hl 0 rfl) ?_
  obtain ⟨S3, hc2, hf⟩ := bd_some hf
  have hC4 := f0_settle_ok l D cy ad ns M t hI S1 S3 hc2
  refine x_vv (n := 0) (As := []) (rest := []) hx hb hml hts hown hK hW hA hC4 (hI.2 1 0 (by decide)) up_io (hI.1 1 0 _) rfl rfl t_438 t_440 p_6 t_12 t_441 rfl (by decide +kernel) rfl rfl ⟨Nat.le_of_ble_eq_true rfl, Nat.le_of_ble_eq_true rfl⟩ hl.1 rfl (lv_room (Nat.le_of_ble_eq_true rfl)) dX0_resize_19 ⟨(Nat.le_of_ble_eq_true rfl), (Nat.le_of_ble_eq_true rfl)⟩ (fun H locs hW => ?_)
  refine lv_aload_n hx hb dX0_resize_22 rfl (lv_at hl 0 rfl) ?_
  obtain ⟨r6, hc5, hf⟩ := bd_some hf
  have hC7 := f0_keysInMain_ok l D cy ad ns M t hI S3 r6 hc5
  refine x_vi (n := 0) (As := []) (rest := []) hx hb hml hts hown hK hW hA hC7 (hI.2 1 0 (by decide)) up_io (hI.1 1 0 _) rfl rfl t_462 t_464 p_10 t_12 t_465 rfl (by decide +kernel) rfl rfl ⟨Nat.le_of_ble_eq_true rfl, Nat.le_of_ble_eq_true rfl⟩ hl.1 rfl (lv_room (Nat.le_of_ble_eq_true rfl)) dX0_resize_23 ⟨(Nat.le_of_ble_eq_true rfl), (Nat.le_of_ble_eq_true rfl)⟩ (fun H locs hW => ?_)
  refine lv_istore_n (lv' := [(2, .int r6), (0, .ref (ad t 1 0)), (1, .int a1)]) hx hb dX0_resize_26 rfl hl (by decide) rfl (fun ls hl => ?_)
  have L27 : ∀ (k : Nat) (w2 : Int32) (S : Ob) (H : Heap) (locs : List Loc) (ls : Array Slot), f0_resize_l27 k w2 S = some m2 → Wl D cy ad ns (Aw ad ns s.heap.size) s.heap (va_up M t S) H locs → lv_has ls 3 [(0, .ref (ad t 1 0)), (2, .int w2)] → W p l e { frames := 3, cells := 0, slots := 0, locals := 70 } s m ([.ref (ad t 1 0), .int a1] : List Value).toArray below meth c H locs 0 0 (QV below D cy ad ns [.ref (ad t 1 0), .int a1] s (va_up M t m2)) (F0 m 27 ls []) := by
    intro k
    induction k with
    | zero => intro w2 S H locs ls hf; exact absurd hf (by simp [f0_resize_l27])
    | succ k27 ih27 =>
      intro w2 S H locs ls hf hW hl
      have hf : f0_resize_b27 (f0_resize_l27 k27) w2 S = some m2 := hf
      unfold f0_resize_b27 at hf
      refine lv_iload_n hx hb dX0_resize_27 rfl (lv_at hl 1 rfl) ?_
      refine lv_if_le (tgt := 67) hx hb dX0_resize_28 (by decide) (fun c8 => ?_) (fun c8 => ?_)
      · replace hf := (if_pos c8).symm.trans hf
        exact x_vret hx hb hr hlk hK hW (congrArg (fun q => (va_up M t q)) (Option.some.inj hf)) dX0_resize_67
      · replace hf := (if_neg c8).symm.trans hf
        refine lv_aload_n hx hb dX0_resize_31 rfl (lv_at hl 0 rfl) ?_
        obtain ⟨r10, hc9, hf⟩ := bd_some hf
        have hC11 := f0_unitsInMain_ok l D cy ad ns M t hI S r10 hc9
        refine x_vi (n := 0) (As := []) (rest := []) hx hb hml hts hown hK hW hA hC11 (hI.2 1 0 (by decide)) up_io (hI.1 1 0 _) rfl rfl t_458 t_460 p_9 t_12 t_461 rfl (by decide +kernel) rfl rfl ⟨Nat.le_of_ble_eq_true rfl, Nat.le_of_ble_eq_true rfl⟩ hl.1 rfl (lv_room (Nat.le_of_ble_eq_true rfl)) dX0_resize_32 ⟨(Nat.le_of_ble_eq_true rfl), (Nat.le_of_ble_eq_true rfl)⟩ (fun H locs hW => ?_)
        refine lv_aload_n hx hb dX0_resize_35 rfl (lv_at hl 0 rfl) ?_
        refine x_get hx hb hts hown hK hW (hI.2 1 0 (by decide)) up_io (hI.1 1 0 _) rfl inX0 2 (by decide) t_265 rfl dX0_resize_36 ?_
        refine lv_aload_n hx hb dX0_resize_39 rfl (lv_at hl 0 rfl) ?_
        refine x_get hx hb hts hown hK hW (hI.2 1 0 (by decide)) up_io (hI.1 1 0 _) rfl inX0 4 (by decide) t_267 rfl dX0_resize_40 ?_
        refine lv_isub hx hb dX0_resize_43 ?_
        refine lv_icmp_gt (tgt := 48) hx hb dX0_resize_44 (by decide) (fun c12 => ?_) (fun c12 => ?_)
        · replace hf := (if_pos c12).symm.trans hf
          refine lv_aload_n hx hb dX0_resize_48 rfl (lv_at hl 0 rfl) ?_
          refine x_get hx hb hts hown hK hW (hI.2 1 0 (by decide)) up_io (hI.1 1 0 _) rfl inX0 1 (by decide) t_262 rfl dX0_resize_49 ?_
          refine lv_iconst (v := 0) hx hb dX0_resize_52 (by decide) ?_
          refine lv_aload_n hx hb dX0_resize_53 rfl (lv_at hl 0 rfl) ?_
          refine lv_iconst (v := 0) hx hb dX0_resize_54 (by decide) ?_
          obtain ⟨r14, hc13, hf⟩ := bd_some hf
          have hC15 := f0_victimAt_ok l D cy ad ns M t hI S (0 : Int32) r14 hc13
          refine x_vi (n := 1) (As := [.int (0 : Int32)]) (rest := [.int (0 : Int32), .ref (ad t 3 0)]) hx hb hml hts hown hK hW hA hC15 (hI.2 1 0 (by decide)) up_io (hI.1 1 0 _) rfl rfl t_466 t_468 p_11 t_12 t_469 rfl (by decide +kernel) rfl rfl ⟨Nat.le_of_ble_eq_true rfl, Nat.le_of_ble_eq_true rfl⟩ hl.1 rfl (lv_room (Nat.le_of_ble_eq_true rfl)) dX0_resize_55 ⟨(Nat.le_of_ble_eq_true rfl), (Nat.le_of_ble_eq_true rfl)⟩ (fun H locs hW => ?_)
          obtain ⟨g17, hc16, hf⟩ := bd_some hf
          replace hf := st_some hf
          have hC19 := f5_moveToLast_ok l D cy ad ns (va_up M t S) t 3 3 (by decide) (hI.at_3) (S 3) (0 : Int32) r14 g17 hc16
          rw [uI_gid, uI_grp] at hC19
          refine x_vv (n := 2) (As := [.int (0 : Int32), .int r14]) (rest := []) hx hb hml hts hown hK hW hA hC19 (hI.2 3 0 (by decide)) up_io (hI.1 3 0 _) rfl rfl t_426 t_427 t_428 t_6 t_429 rfl (by decide +kernel) rfl rfl ⟨Nat.le_of_ble_eq_true rfl, Nat.le_of_ble_eq_true rfl⟩ hl.1 rfl (lv_room (Nat.le_of_ble_eq_true rfl)) dX0_resize_58 ⟨(Nat.le_of_ble_eq_true rfl), (Nat.le_of_ble_eq_true rfl)⟩ (fun H locs hW => ?_)
          generalize (va_up S 3 g17) = S18 at hf hW
          refine lv_iinc (v := (w2 + (-1 : Int32))) (lv' := [(2, .int (w2 + (-1 : Int32))), (0, .ref (ad t 1 0))]) hx hb dX0_resize_61 hl (k := 1) rfl (by first | rfl | decide) (by decide) rfl (fun ls hl => ?_)
          refine lv_goto (tgt := 27) hx hb dX0_resize_64 (by decide) ?_
          exact ih27 _ _ _ _ _ hf hW (lv_sub hl [1, 0] rfl)
        · replace hf := (if_neg c12).symm.trans hf
          exact x_vret hx hb hr hlk hK hW (congrArg (fun q => (va_up M t q)) (Option.some.inj hf)) dX0_resize_47
  exact L27 NF _ _ _ _ _ hf hW (lv_sub hl [1, 0] rfl)
def f0_isSound_j28 (S : Ob) : Option Int32 :=
  ((f5_countedUnits 3 (S 3) (2 : Int32)).bind (fun r7 => ((f5_countedUnits 3 (S 3) (0 : Int32)).bind (fun r10 => (if (S 1 0 4) < r10 then (some (0 : Int32)) else ((f5_countedUnits 3 (S 3) (1 : Int32)).bind (fun r14 => (if ((S 1 0 2) - (S 1 0 4)) < (r14 + r7) then (some (0 : Int32)) else ((f0_protectedLimit S).bind (fun r18 => (if r18 < r7 then (some (0 : Int32)) else (some (1 : Int32)))))))))))))
def f0_isSound_b2 (S : Ob) (rec2 : Int32 → Option Int32) (w1 : Int32) : Option Int32 :=
  (if (100 : Int32) ≤ w1 then (f0_isSound_j28 S) else ((f5_appearancesOf 3 (S 3) w1).bind (fun r3 => (if r3 ≤ (1 : Int32) then (rec2 (w1 + (1 : Int32))) else (some (0 : Int32))))))
def f0_isSound_l2 (S : Ob) : Nat → Int32 → Option Int32
  | 0 => fun _ => none
  | k + 1 => f0_isSound_b2 S (f0_isSound_l2 S k)
def f0_isSound (S : Ob) : Option Int32 :=
  (f0_isSound_l2 S NF (0 : Int32))
set_option maxHeartbeats 4000000 in
set_option maxRecDepth 100000 in
theorem f0_isSound_ok (l : Launch) (D : va_G) (cy : Nat → ClassId) (ad : Nat → Nat → Nat → Nat) (ns : List (Nat × Nat × Nat)) (M : Me) (t : Nat) (hI : IsSt cy ad ns t) (S : Ob) (r : Int32)  (hf : f0_isSound S = some r) : Ci l yX0_isSound (.code yX0_isSound cX0_isSound 2 (some .boolean) :: tk_tb) { frames := 1, cells := 0, slots := 0, locals := 24 } D cy ad ns [.ref (ad t 1 0)] (va_up M t S) r (va_up M t S) := by
  refine Ci.of (by decide) (Nat.le_of_ble_eq_true rfl) ?_
  intro p e s m below meth c ls hE hW hl
  obtain ⟨hx, hb, hr, hml, hown, hts, hlk, hK⟩ := hE
  have hA : ∀ q : Nat, s.heap.size ≤ q → Aw ad ns s.heap.size q := fun q h => Or.inr h
  have hl : lv_has ls 2 [(0, .ref (ad t 1 0))] := hl
  unfold f0_isSound at hf
  have J28 : ∀ (H : Heap) (locs : List Loc) (ls : Array Slot), f0_isSound_j28 S = some r → Wl D cy ad ns (Aw ad ns s.heap.size) s.heap (va_up M t S) H locs → lv_has ls 2 [(0, .ref (ad t 1 0))] → W p l e { frames := 1, cells := 0, slots := 0, locals := 24 } s m ([.ref (ad t 1 0)] : List Value).toArray below meth c H locs 0 0 (QI below D cy ad ns [.ref (ad t 1 0)] s r (va_up M t S)) (F0 m 28 ls []) := by
    intro H locs ls hf hW hl
    unfold f0_isSound_j28 at hf
    refine lv_aload_n hx hb dX0_isSound_28 rfl (lv_at hl 0 rfl) ?_
    refine x_get hx hb hts hown hK hW (hI.2 1 0 (by decide)) up_io (hI.1 1 0 _) rfl inX0 1 (by decide) t_262 rfl dX0_isSound_29 ?_
    refine lv_iconst (v := 2) hx hb dX0_isSound_32 (by decide) ?_
    obtain ⟨r7, hc6, hf⟩ := bd_some hf
    have hC8 := f5_countedUnits_ok l D cy ad ns (va_up M t S) t 3 3 (by decide) (hI.at_3) (S 3) (2 : Int32) r7 hc6
    rw [uI_gid] at hC8
    refine x_vi (n := 1) (As := [.int (2 : Int32)]) (rest := []) hx hb hml hts hown hK hW hA hC8 (hI.2 3 0 (by decide)) up_io (hI.1 3 0 _) rfl rfl t_715 t_716 t_717 t_6 t_718 rfl (by decide +kernel) rfl rfl ⟨Nat.le_of_ble_eq_true rfl, Nat.le_of_ble_eq_true rfl⟩ hl.1 rfl (lv_room (Nat.le_of_ble_eq_true rfl)) dX0_isSound_33 ⟨(Nat.le_of_ble_eq_true rfl), (Nat.le_of_ble_eq_true rfl)⟩ (fun H locs hW => ?_)
    refine lv_istore_n (lv' := [(1, .int r7), (0, .ref (ad t 1 0))]) hx hb dX0_isSound_36 rfl hl (by decide) rfl (fun ls hl => ?_)
    refine lv_aload_n hx hb dX0_isSound_37 rfl (lv_at hl 1 rfl) ?_
    refine x_get hx hb hts hown hK hW (hI.2 1 0 (by decide)) up_io (hI.1 1 0 _) rfl inX0 1 (by decide) t_262 rfl dX0_isSound_38 ?_
    refine lv_iconst (v := 0) hx hb dX0_isSound_41 (by decide) ?_
    obtain ⟨r10, hc9, hf⟩ := bd_some hf
    have hC11 := f5_countedUnits_ok l D cy ad ns (va_up M t S) t 3 3 (by decide) (hI.at_3) (S 3) (0 : Int32) r10 hc9
    rw [uI_gid] at hC11
    refine x_vi (n := 1) (As := [.int (0 : Int32)]) (rest := []) hx hb hml hts hown hK hW hA hC11 (hI.2 3 0 (by decide)) up_io (hI.1 3 0 _) rfl rfl t_715 t_716 t_717 t_6 t_718 rfl (by decide +kernel) rfl rfl ⟨Nat.le_of_ble_eq_true rfl, Nat.le_of_ble_eq_true rfl⟩ hl.1 rfl (lv_room (Nat.le_of_ble_eq_true rfl)) dX0_isSound_42 ⟨(Nat.le_of_ble_eq_true rfl), (Nat.le_of_ble_eq_true rfl)⟩ (fun H locs hW => ?_)
    refine lv_aload_n hx hb dX0_isSound_45 rfl (lv_at hl 1 rfl) ?_
    refine x_get hx hb hts hown hK hW (hI.2 1 0 (by decide)) up_io (hI.1 1 0 _) rfl inX0 4 (by decide) t_267 rfl dX0_isSound_46 ?_
    refine lv_icmp_gt (tgt := 86) hx hb dX0_isSound_49 (by decide) (fun c12 => ?_) (fun c12 => ?_)
    · replace hf := (if_pos c12).symm.trans hf
      refine lv_iconst (v := 0) hx hb dX0_isSound_86 (by decide) ?_
      exact x_zret hx hb hr hlk (by first | decide | rfl) hK hW (Option.some.inj hf) rfl dX0_isSound_87
    · replace hf := (if_neg c12).symm.trans hf
      refine lv_aload_n hx hb dX0_isSound_52 rfl (lv_at hl 1 rfl) ?_
      refine x_get hx hb hts hown hK hW (hI.2 1 0 (by decide)) up_io (hI.1 1 0 _) rfl inX0 1 (by decide) t_262 rfl dX0_isSound_53 ?_
      refine lv_iconst (v := 1) hx hb dX0_isSound_56 (by decide) ?_
      obtain ⟨r14, hc13, hf⟩ := bd_some hf
      have hC15 := f5_countedUnits_ok l D cy ad ns (va_up M t S) t 3 3 (by decide) (hI.at_3) (S 3) (1 : Int32) r14 hc13
      rw [uI_gid] at hC15
      refine x_vi (n := 1) (As := [.int (1 : Int32)]) (rest := []) hx hb hml hts hown hK hW hA hC15 (hI.2 3 0 (by decide)) up_io (hI.1 3 0 _) rfl rfl t_715 t_716 t_717 t_6 t_718 rfl (by decide +kernel) rfl rfl ⟨Nat.le_of_ble_eq_true rfl, Nat.le_of_ble_eq_true rfl⟩ hl.1 rfl (lv_room (Nat.le_of_ble_eq_true rfl)) dX0_isSound_57 ⟨(Nat.le_of_ble_eq_true rfl), (Nat.le_of_ble_eq_true rfl)⟩ (fun H locs hW => ?_)
      refine lv_iload_n hx hb dX0_isSound_60 rfl (lv_at hl 0 rfl) ?_
      refine lv_iadd hx hb dX0_isSound_61 ?_
      refine lv_aload_n hx hb dX0_isSound_62 rfl (lv_at hl 1 rfl) ?_
      refine x_get hx hb hts hown hK hW (hI.2 1 0 (by decide)) up_io (hI.1 1 0 _) rfl inX0 2 (by decide) t_265 rfl dX0_isSound_63 ?_
      refine lv_aload_n hx hb dX0_isSound_66 rfl (lv_at hl 1 rfl) ?_
      refine x_get hx hb hts hown hK hW (hI.2 1 0 (by decide)) up_io (hI.1 1 0 _) rfl inX0 4 (by decide) t_267 rfl dX0_isSound_67 ?_
      refine lv_isub hx hb dX0_isSound_70 ?_
      refine lv_icmp_gt (tgt := 86) hx hb dX0_isSound_71 (by decide) (fun c16 => ?_) (fun c16 => ?_)
      · replace hf := (if_pos c16).symm.trans hf
        refine lv_iconst (v := 0) hx hb dX0_isSound_86 (by decide) ?_
        exact x_zret hx hb hr hlk (by first | decide | rfl) hK hW (Option.some.inj hf) rfl dX0_isSound_87
      · replace hf := (if_neg c16).symm.trans hf
        refine lv_iload_n hx hb dX0_isSound_74 rfl (lv_at hl 0 rfl) ?_
        refine lv_aload_n hx hb dX0_isSound_75 rfl (lv_at hl 1 rfl) ?_
        obtain ⟨r18, hc17, hf⟩ := bd_some hf
        have hC19 := f0_protectedLimit_ok l D cy ad ns M t hI S r18 hc17
        refine x_vi (n := 0) (As := []) (rest := [.int r7]) hx hb hml hts hown hK hW hA hC19 (hI.2 1 0 (by decide)) up_io (hI.1 1 0 _) rfl rfl t_442 t_443 t_444 t_12 t_445 rfl (by decide +kernel) rfl rfl ⟨Nat.le_of_ble_eq_true rfl, Nat.le_of_ble_eq_true rfl⟩ hl.1 rfl (lv_room (Nat.le_of_ble_eq_true rfl)) dX0_isSound_76 ⟨(Nat.le_of_ble_eq_true rfl), (Nat.le_of_ble_eq_true rfl)⟩ (fun H locs hW => ?_)
        refine lv_icmp_gt (tgt := 86) hx hb dX0_isSound_79 (by decide) (fun c20 => ?_) (fun c20 => ?_)
        · replace hf := (if_pos c20).symm.trans hf
          refine lv_iconst (v := 0) hx hb dX0_isSound_86 (by decide) ?_
          exact x_zret hx hb hr hlk (by first | decide | rfl) hK hW (Option.some.inj hf) rfl dX0_isSound_87
        · replace hf := (if_neg c20).symm.trans hf
          refine lv_iconst (v := 1) hx hb dX0_isSound_82 (by decide) ?_
          refine lv_goto (tgt := 87) hx hb dX0_isSound_83 (by decide) ?_
          exact x_zret hx hb hr hlk (by first | decide | rfl) hK hW (Option.some.inj hf) rfl dX0_isSound_87
  refine lv_iconst (v := 0) hx hb dX0_isSound_0 (by decide) ?_
  refine lv_istore_n (lv' := [(1, .int (0 : Int32)), (0, .ref (ad t 1 0))]) hx hb dX0_isSound_1 rfl hl (by decide) rfl (fun ls hl => ?_)
  have L2 : ∀ (k : Nat) (w1 : Int32) (H : Heap) (locs : List Loc) (ls : Array Slot), f0_isSound_l2 S k w1 = some r → Wl D cy ad ns (Aw ad ns s.heap.size) s.heap (va_up M t S) H locs → lv_has ls 2 [(0, .ref (ad t 1 0)), (1, .int w1)] → W p l e { frames := 1, cells := 0, slots := 0, locals := 24 } s m ([.ref (ad t 1 0)] : List Value).toArray below meth c H locs 0 0 (QI below D cy ad ns [.ref (ad t 1 0)] s r (va_up M t S)) (F0 m 2 ls []) := by
    intro k
    induction k with
    | zero => intro w1 H locs ls hf; exact absurd hf (by simp [f0_isSound_l2])
    | succ k2 ih2 =>
      intro w1 H locs ls hf hW hl
      have hf : f0_isSound_b2 S (f0_isSound_l2 S k2) w1 = some r := hf
      unfold f0_isSound_b2 at hf
      refine lv_iload_n hx hb dX0_isSound_2 rfl (lv_at hl 1 rfl) ?_
      refine lv_bipush (v := 100) hx hb dX0_isSound_3 (by decide) ?_
      refine lv_icmp_ge (tgt := 28) hx hb dX0_isSound_5 (by decide) (fun c1 => ?_) (fun c1 => ?_)
      · replace hf := (if_pos c1).symm.trans hf
        exact J28 _ _ _ hf hW (lv_sub hl [0] rfl)
      · replace hf := (if_neg c1).symm.trans hf
        refine lv_aload_n hx hb dX0_isSound_8 rfl (lv_at hl 0 rfl) ?_
        refine x_get hx hb hts hown hK hW (hI.2 1 0 (by decide)) up_io (hI.1 1 0 _) rfl inX0 1 (by decide) t_262 rfl dX0_isSound_9 ?_
        refine lv_iload_n hx hb dX0_isSound_12 rfl (lv_at hl 1 rfl) ?_
        obtain ⟨r3, hc2, hf⟩ := bd_some hf
        have hC4 := f5_appearancesOf_ok l D cy ad ns (va_up M t S) t 3 3 (by decide) (hI.at_3) (S 3) w1 r3 hc2
        rw [uI_gid] at hC4
        refine x_vi (n := 1) (As := [.int w1]) (rest := []) hx hb hml hts hown hK hW hA hC4 (hI.2 3 0 (by decide)) up_io (hI.1 3 0 _) rfl rfl t_711 t_712 t_713 t_6 t_714 rfl (by decide +kernel) rfl rfl ⟨Nat.le_of_ble_eq_true rfl, Nat.le_of_ble_eq_true rfl⟩ hl.1 rfl (lv_room (Nat.le_of_ble_eq_true rfl)) dX0_isSound_13 ⟨(Nat.le_of_ble_eq_true rfl), (Nat.le_of_ble_eq_true rfl)⟩ (fun H locs hW => ?_)
        refine lv_iconst (v := 1) hx hb dX0_isSound_16 (by decide) ?_
        refine lv_icmp_le (tgt := 22) hx hb dX0_isSound_17 (by decide) (fun c5 => ?_) (fun c5 => ?_)
        · replace hf := (if_pos c5).symm.trans hf
          refine lv_iinc (v := (w1 + (1 : Int32))) (lv' := [(1, .int (w1 + (1 : Int32))), (0, .ref (ad t 1 0))]) hx hb dX0_isSound_22 hl (k := 1) rfl (by first | rfl | decide) (by decide) rfl (fun ls hl => ?_)
          refine lv_goto (tgt := 2) hx hb dX0_isSound_25 (by decide) ?_
          exact ih2 _ _ _ _ hf hW (lv_sub hl [1, 0] rfl)
        · replace hf := (if_neg c5).symm.trans hf
          refine lv_iconst (v := 0) hx hb dX0_isSound_20 (by decide) ?_
          exact x_zret hx hb hr hlk (by first | decide | rfl) hK hW (Option.some.inj hf) rfl dX0_isSound_21
  exact L2 NF _ _ _ _ hf hW (lv_sub hl [1, 0] rfl)
