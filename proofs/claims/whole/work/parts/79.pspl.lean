theorem spl_0 {Z : Nat → Nat} {most : Nat} {w p q : List Nat} (h : uS Z (p ++ q) ≤ most) : spl Z most w p q = (w, p, q) := by
  match p, q with
  | k :: p, q => exact if_pos h
  | [], [] => rfl
  | [], k :: q =>
    have e : splq Z most w (k :: q) = (w, k :: q) := if_pos h
    show ((splq Z most w (k :: q)).1, ([] : List Nat), (splq Z most w (k :: q)).2) = _
    rw [e]
theorem spl_1 {Z : Nat → Nat} {most k : Nat} {w p q : List Nat} (h : ¬ uS Z (k :: p ++ q) ≤ most) : spl Z most w (k :: p) q = spl Z most (w ++ [k]) p q := if_neg h
theorem spl_2 {Z : Nat → Nat} {most k : Nat} {w q : List Nat} (h : ¬ uS Z (k :: q) ≤ most) : spl Z most w [] (k :: q) = spl Z most (w ++ [k]) [] q := by
  have e : splq Z most w (k :: q) = splq Z most (w ++ [k]) q := if_neg h
  show ((splq Z most w (k :: q)).1, ([] : List Nat), (splq Z most w (k :: q)).2) = ((splq Z most (w ++ [k]) q).1, ([] : List Nat), (splq Z most (w ++ [k]) q).2)
  rw [e]
theorem pc_splL {Z : Nat → Nat} {S : Ob} {c : Nat → Int32} {C mode W : Nat} {o : Int32} (hZ : ∀ k, k < 100 → 1 ≤ Z k ∧ Z k ≤ 20) (hC : C ≤ 200) (hW : W ≤ C) (hc : RC C mode W o c) : ∀ (m : Nat) (w p q : List Nat) (g : Sg) (n : Nat), (p ++ q).length = m → m < n → okL 3 (L3 w p q) → RW 3 (L3 w p q) Z g → ∃ g2, f0_resize_l27 n (nI m) (mkS S c g) = some (mkS S c g2) ∧ RW 3 (L3 (spl Z (C - W) w p q).1 (spl Z (C - W) w p q).2.1 (spl Z (C - W) w p q).2.2) Z g2 ∧ okL 3 (L3 (spl Z (C - W) w p q).1 (spl Z (C - W) w p q).2.1 (spl Z (C - W) w p q).2.2) := by
  intro m
  induction m with
  | zero =>
    intro w p q g n h1 h2 hok hR
    match n, h2 with
    | n + 1, _ =>
      have hv : p ++ q = [] := List.eq_nil_of_length_eq_zero h1
      have hus : uS Z (p ++ q) = 0 := by rw [hv]; rfl
      rw [spl_0 (by omega)]
      refine ⟨g, ?_, hR, hok⟩
      show f0_resize_b27 (f0_resize_l27 n) (nI 0) (mkS S c g) = _
      unfold f0_resize_b27
      simp (disch := omega) only [rd_n, ck_n, wr_n, cl_n, st_e, b2_e, bd_e, ltp, lep, eqp, m1p, m1l, m1e, m1a, nI_add, pk_sub, pk_mul, dvp, nzp, up_s, up_x, up_01, if_true, if_false, Nat.not_lt_zero, Nat.zero_add, z_0, z_1, z_2, z_3, z_4, z_5, z_10, z_11, z_15, z_20, z_30, z_63, z_64, z_99, z_100, z_127, z_128, z_200, z_256, z_300, z_400, z_500, z_600, z_601, z_602, z_603, z_604, z_605, z_606, z_862, z_990, z_1000, z_1090, z_1390, z_1393, z_1394, z_1395, z_1396, z_1397, z_1398, z_1399, z_1400, z_1401, z_1402, z_1403, z_1404, z_1405, z_1705, z_1805, z_7220, Nat.le_refl]
  | succ m ih =>
    intro w p q g n h1 h2 hok hR
    match n, h2 with
    | n + 1, h2 =>
      have hlen := v_len hok
      have hus := v_us hok hZ
      have e31 : g 3 1 = nI (uS Z p) := hR.2.1 1 (by decide)
      have e32 : g 3 2 = nI (uS Z q) := hR.2.1 2 (by decide)
      have hsum := uS_app (Z := Z) p q
      have hv := pc_vict (S := S) (c := c) (i := 0) hok hR (by omega)
      show ∃ g2, f0_resize_b27 (f0_resize_l27 n) (nI (m + 1)) (mkS S c g) = some (mkS S c g2) ∧ _
      unfold f0_resize_b27 f0_unitsInMain
      by_cases hle : uS Z (p ++ q) ≤ C - W
      · rw [spl_0 hle]
        simp (disch := omega) only [rd_n, ck_n, wr_n, cl_n, st_e, b2_e, bd_e, ltp, lep, eqp, m1p, m1l, m1e, m1a, nI_add, pk_sub, pk_mul, dvp, nzp, up_s, up_x, up_01, if_true, if_false, Nat.not_lt_zero, Nat.zero_add, z_0, z_1, z_2, z_3, z_4, z_5, z_10, z_11, z_15, z_20, z_30, z_63, z_64, z_99, z_100, z_127, z_128, z_200, z_256, z_300, z_400, z_500, z_600, z_601, z_602, z_603, z_604, z_605, z_606, z_862, z_990, z_1000, z_1090, z_1390, z_1393, z_1394, z_1395, z_1396, z_1397, z_1398, z_1399, z_1400, z_1401, z_1402, z_1403, z_1404, z_1405, z_1705, z_1805, z_7220, if_neg (show ¬ m + 1 ≤ 0 by omega), mk_3, mk_1, e31, e32, hc.1, hc.2.2.1, ← hsum, if_neg (show ¬ C - W < uS Z (p ++ q) by omega)]
        exact ⟨g, rfl, hR, hok⟩
      · match p, q, hok, hR, hv, h1, hle, hsum, e31, e32, hus with
        | kk :: p, q, hok, hR, hv, h1, hle, hsum, e31, e32, hus =>
          have hkk := (ok_h1 hok).1
          have hv : f0_victimAt (mkS S c g) (nI 0) = some (nI kk) := hv
          obtain ⟨g1, f1, f2⟩ := pr_mov (r := 0) (by decide) (by decide) hok hZ hR hkk
          have f3 := ok_mov hok (r := 0) hkk
          rw [L3_m10 hok] at f2 f3
          rw [spl_1 hle]
          obtain ⟨g2, i1, i2⟩ := ih (w ++ [kk]) p q g1 n (by simp at h1 ⊢; omega) (by omega) f3 f2
          simp (disch := omega) only [rd_n, ck_n, wr_n, cl_n, st_e, b2_e, bd_e, ltp, lep, eqp, m1p, m1l, m1e, m1a, nI_add, pk_sub, pk_mul, dvp, nzp, up_s, up_x, up_01, if_true, if_false, Nat.not_lt_zero, Nat.zero_add, z_0, z_1, z_2, z_3, z_4, z_5, z_10, z_11, z_15, z_20, z_30, z_63, z_64, z_99, z_100, z_127, z_128, z_200, z_256, z_300, z_400, z_500, z_600, z_601, z_602, z_603, z_604, z_605, z_606, z_862, z_990, z_1000, z_1090, z_1390, z_1393, z_1394, z_1395, z_1396, z_1397, z_1398, z_1399, z_1400, z_1401, z_1402, z_1403, z_1404, z_1405, z_1705, z_1805, z_7220, if_neg (show ¬ m + 1 ≤ 0 by omega), mk_3, mk_1, e31, e32, hc.1, hc.2.2.1, ← hsum, if_pos (show C - W < uS Z (kk :: p ++ q) by omega), hv, f1, mk_u3, Nat.add_sub_cancel]
          exact ⟨g2, i1, i2⟩
        | [], [], hok, hR, hv, h1, hle, hsum, e31, e32, hus => simp at h1
        | [], kk :: q, hok, hR, hv, h1, hle, hsum, e31, e32, hus =>
          have hkk := (ok_h2 hok).1
          have hv : f0_victimAt (mkS S c g) (nI 0) = some (nI kk) := hv
          obtain ⟨g1, f1, f2⟩ := pr_mov (r := 0) (by decide) (by decide) hok hZ hR hkk
          have f3 := ok_mov hok (r := 0) hkk
          rw [L3_m20 hok] at f2 f3
          rw [spl_2 hle]
          obtain ⟨g2, i1, i2⟩ := ih (w ++ [kk]) [] q g1 n (by simp at h1 ⊢; omega) (by omega) f3 f2
          simp (disch := omega) only [rd_n, ck_n, wr_n, cl_n, st_e, b2_e, bd_e, ltp, lep, eqp, m1p, m1l, m1e, m1a, nI_add, pk_sub, pk_mul, dvp, nzp, up_s, up_x, up_01, if_true, if_false, Nat.not_lt_zero, Nat.zero_add, z_0, z_1, z_2, z_3, z_4, z_5, z_10, z_11, z_15, z_20, z_30, z_63, z_64, z_99, z_100, z_127, z_128, z_200, z_256, z_300, z_400, z_500, z_600, z_601, z_602, z_603, z_604, z_605, z_606, z_862, z_990, z_1000, z_1090, z_1390, z_1393, z_1394, z_1395, z_1396, z_1397, z_1398, z_1399, z_1400, z_1401, z_1402, z_1403, z_1404, z_1405, z_1705, z_1805, z_7220, if_neg (show ¬ m + 1 ≤ 0 by omega), mk_3, mk_1, e31, e32, hc.1, hc.2.2.1, ← hsum, if_pos (show C - W < uS Z ([] ++ kk :: q) by omega), hv, f1, mk_u3, Nat.add_sub_cancel]
          exact ⟨g2, i1, i2⟩
theorem pm_splL {Z : Nat → Nat} {g : Sg} {C W : Nat} (h1 : g 0 1 = nI C) (hZ : ∀ k, k < 100 → 1 ≤ Z k ∧ Z k ≤ 20) (hC : C ≤ 200) (hW : W ≤ C) : ∀ (m : Nat) (w p q : List Nat) (x : Nat → Int32) (n : Nat), (p ++ q).length = m → m < n → okL 3 (L3 w p q) → RQ (L3 w p q) Z x → x 1393 = nI W → ∃ y, f11_climb_l104 n (va_up g 1 x) = f11_climb_j150 (va_up g 1 y) ∧ RQ (L3 (spl Z (C - W) w p q).1 (spl Z (C - W) w p q).2.1 (spl Z (C - W) w p q).2.2) Z y ∧ QF x y := by
  intro m
  induction m with
  | zero =>
    intro w p q x n h1m h2 hok hR hx
    match n, h2 with
    | n + 1, _ =>
      have hv : p ++ q = [] := List.eq_nil_of_length_eq_zero h1m
      have hus : uS Z (p ++ q) = 0 := by rw [hv]; rfl
      rw [spl_0 (by omega)]
      refine ⟨x, ?_, hR, fun _ _ => rfl⟩
      show f11_climb_b104 (f11_climb_l104 n) (va_up g 1 x) = _
      unfold f11_climb_b104
      have em := pm_main (g := va_up g 1 x) hok hR
      simp (disch := omega) only [rd_n, ck_n, wr_n, cl_n, st_e, b2_e, bd_e, ltp, lep, eqp, m1p, m1l, m1e, m1a, nI_add, pk_sub, pk_mul, dvp, nzp, up_s, up_x, up_01, if_true, if_false, Nat.not_lt_zero, Nat.zero_add, z_0, z_1, z_2, z_3, z_4, z_5, z_10, z_11, z_15, z_20, z_30, z_63, z_64, z_99, z_100, z_127, z_128, z_200, z_256, z_300, z_400, z_500, z_600, z_601, z_602, z_603, z_604, z_605, z_606, z_862, z_990, z_1000, z_1090, z_1390, z_1393, z_1394, z_1395, z_1396, z_1397, z_1398, z_1399, z_1400, z_1401, z_1402, z_1403, z_1404, z_1405, z_1705, z_1805, z_7220, em, hus, hx, h1, if_pos (show 0 ≤ C - W by omega)]
  | succ m ih =>
    intro w p q x n h1m h2 hok hR hx
    match n, h2 with
    | n + 1, h2 =>
      have hus := v_us hok hZ
      have em := pm_main (g := va_up g 1 x) hok hR
      show ∃ y, f11_climb_b104 (f11_climb_l104 n) (va_up g 1 x) = f11_climb_j150 (va_up g 1 y) ∧ _
      unfold f11_climb_b104
      by_cases hle : uS Z (p ++ q) ≤ C - W
      · rw [spl_0 hle]
        simp (disch := omega) only [rd_n, ck_n, wr_n, cl_n, st_e, b2_e, bd_e, ltp, lep, eqp, m1p, m1l, m1e, m1a, nI_add, pk_sub, pk_mul, dvp, nzp, up_s, up_x, up_01, if_true, if_false, Nat.not_lt_zero, Nat.zero_add, z_0, z_1, z_2, z_3, z_4, z_5, z_10, z_11, z_15, z_20, z_30, z_63, z_64, z_99, z_100, z_127, z_128, z_200, z_256, z_300, z_400, z_500, z_600, z_601, z_602, z_603, z_604, z_605, z_606, z_862, z_990, z_1000, z_1090, z_1390, z_1393, z_1394, z_1395, z_1396, z_1397, z_1398, z_1399, z_1400, z_1401, z_1402, z_1403, z_1404, z_1405, z_1705, z_1805, z_7220, em, hx, h1, if_pos hle]
        exact ⟨x, rfl, hR, fun _ _ => rfl⟩
      · match p, q, hok, hR, em, h1m, hle, hus with
        | kk :: p, q, hok, hR, em, h1m, hle, hus =>
          have hkk := (ok_h1 hok).1
          have el : f11_length (va_up g 1 x) (nI 1) = some (nI (p.length + 1)) := pm_len (L := L3 w (kk :: p) q) (r := 1) (by decide) hR
          have hpl : p.length + 1 ≤ 100 := hok.len (r := 1) (by decide)
          obtain ⟨y1, a1, a2, a3, a4⟩ := pm_tk1 (g := g) hok hR
          have hnm : ∀ r, r < 3 → kk ∉ L3 w p q r := fun r hr => by rw [← L3_d1 hok]; exact out_nm hok hr
          obtain ⟨y2, b1, b2, b3⟩ := pm_app (g := g) (r := 0) (k := kk) (by decide) a4 a2 (a4.lt (r := 0) (by decide) hkk (hnm 0 (by decide)))
          have b4 := ok_app (r := 0) a4 hkk hnm
          rw [L3_a0] at b2 b4
          rw [spl_1 hle]
          obtain ⟨y, i1, i2, i3⟩ := ih (w ++ [kk]) p q y2 n (by simp at h1m ⊢; omega) (by omega) b4 b2 (by rw [b3 _ (by omega), a3 _ (by omega)]; exact hx)
          simp (disch := omega) only [rd_n, ck_n, wr_n, cl_n, st_e, b2_e, bd_e, ltp, lep, eqp, m1p, m1l, m1e, m1a, nI_add, pk_sub, pk_mul, dvp, nzp, up_s, up_x, up_01, if_true, if_false, Nat.not_lt_zero, Nat.zero_add, z_0, z_1, z_2, z_3, z_4, z_5, z_10, z_11, z_15, z_20, z_30, z_63, z_64, z_99, z_100, z_127, z_128, z_200, z_256, z_300, z_400, z_500, z_600, z_601, z_602, z_603, z_604, z_605, z_606, z_862, z_990, z_1000, z_1090, z_1390, z_1393, z_1394, z_1395, z_1396, z_1397, z_1398, z_1399, z_1400, z_1401, z_1402, z_1403, z_1404, z_1405, z_1705, z_1805, z_7220, em, hx, h1, if_neg hle, el, if_neg (show ¬ p.length + 1 ≤ 0 by omega), a1, b1]
          exact ⟨y, i1, i2, (a3.t b3).t i3⟩
        | [], [], hok, hR, em, h1m, hle, hus => simp at h1m
        | [], kk :: q, hok, hR, em, h1m, hle, hus =>
          have hkk := (ok_h2 hok).1
          have el : f11_length (va_up g 1 x) (nI 1) = some (nI 0) := pm_len (L := L3 w [] (kk :: q)) (r := 1) (by decide) hR
          obtain ⟨y1, a1, a2, a3, a4⟩ := pm_tk2 (g := g) hok hR
          have hnm : ∀ r, r < 3 → kk ∉ L3 w [] q r := fun r hr => by rw [← L3_d2 hok]; exact out_nm hok hr
          obtain ⟨y2, b1, b2, b3⟩ := pm_app (g := g) (r := 0) (k := kk) (by decide) a4 a2 (a4.lt (r := 0) (by decide) hkk (hnm 0 (by decide)))
          have b4 := ok_app (r := 0) a4 hkk hnm
          rw [L3_a0] at b2 b4
          rw [spl_2 hle]
          obtain ⟨y, i1, i2, i3⟩ := ih (w ++ [kk]) [] q y2 n (by simp at h1m ⊢; omega) (by omega) b4 b2 (by rw [b3 _ (by omega), a3 _ (by omega)]; exact hx)
          simp (disch := omega) only [rd_n, ck_n, wr_n, cl_n, st_e, b2_e, bd_e, ltp, lep, eqp, m1p, m1l, m1e, m1a, nI_add, pk_sub, pk_mul, dvp, nzp, up_s, up_x, up_01, if_true, if_false, Nat.not_lt_zero, Nat.zero_add, z_0, z_1, z_2, z_3, z_4, z_5, z_10, z_11, z_15, z_20, z_30, z_63, z_64, z_99, z_100, z_127, z_128, z_200, z_256, z_300, z_400, z_500, z_600, z_601, z_602, z_603, z_604, z_605, z_606, z_862, z_990, z_1000, z_1090, z_1390, z_1393, z_1394, z_1395, z_1396, z_1397, z_1398, z_1399, z_1400, z_1401, z_1402, z_1403, z_1404, z_1405, z_1705, z_1805, z_7220, em, hx, h1, if_neg hle, el, Nat.le_refl, a1, b1]
          exact ⟨y, i1, i2, (a3.t b3).t i3⟩
/-! within limits -/
theorem clamp {lo hi : Nat} (h : lo ≤ hi) (hh : hi < 1000) (v : Int32) : ∃ t, lo ≤ t ∧ t ≤ hi ∧ (if nI lo < (if v < nI hi then v else nI hi) then (if v < nI hi then v else nI hi) else nI lo) = nI t ∧ f11_within v (nI lo) (nI hi) = some (nI t) := by
  unfold f11_within
  rcases pk_ix v (n := 1000000) (by decide) with hv | hv | ⟨j, hj, rfl⟩
  · have hneg : ∀ n, n < 1000000 → v < nI n := fun n hn => by
      rw [Int32.lt_iff_toInt_lt] at hv ⊢
      rw [nI_toInt (by omega)]
      have : (0 : Int32).toInt = 0 := rfl
      omega
    have hnle : ¬ nI lo ≤ v := fun e => by
      have := hneg lo (by omega)
      rw [Int32.le_iff_toInt_le] at e
      rw [Int32.lt_iff_toInt_lt] at this
      omega
    have hnl2 : ¬ nI lo < v := fun e => by
      have := hneg lo (by omega)
      rw [Int32.lt_iff_toInt_lt] at e this
      omega
    refine ⟨lo, Nat.le_refl _, h, ?_, ?_⟩
    · rw [if_pos (hneg hi (by omega)), if_neg hnl2]
    · rw [if_neg hnle]
  · have hbig : ∀ n, n < 1000 → nI n < v := fun n hn => by
      rw [Int32.le_iff_toInt_le, nI_toInt (by decide)] at hv
      rw [Int32.lt_iff_toInt_lt, nI_toInt (by omega)]
      omega
    have hn1 : ¬ v < nI hi := fun e => by
      have := hbig hi hh
      rw [Int32.lt_iff_toInt_lt] at e this
      omega
    have hn2 : ¬ v ≤ nI hi := fun e => by
      have := hbig hi hh
      rw [Int32.le_iff_toInt_le] at e
      rw [Int32.lt_iff_toInt_lt] at this
      omega
    have hn3 : nI lo ≤ v := by
      have := hbig lo (by omega)
      rw [Int32.lt_iff_toInt_lt] at this
      rw [Int32.le_iff_toInt_le]
      omega
    refine ⟨hi, h, Nat.le_refl _, ?_, ?_⟩
    · rw [if_neg hn1, lt_n (by omega) (by omega)]
      by_cases e : lo < hi
      · rw [if_pos e]
      · rw [if_neg e, show lo = hi by omega]
    · rw [if_pos hn3, if_neg hn2]
  · by_cases h1 : j < lo
    · refine ⟨lo, Nat.le_refl _, h, ?_, ?_⟩
      · rw [lt_n (a := j) (b := hi) (by omega) (by omega), if_pos (show j < hi by omega), lt_n (by omega) (by omega), if_neg (show ¬ lo < j by omega)]
      · rw [le_n (by omega) (by omega), if_neg (by omega)]
    · by_cases h2 : j ≤ hi
      · refine ⟨j, by omega, h2, ?_, ?_⟩
        · by_cases h3 : j < hi
          · rw [lt_n (by omega) (by omega), if_pos h3, lt_n (by omega) (by omega)]
            by_cases e : lo < j
            · rw [if_pos e]
            · rw [if_neg e, show lo = j by omega]
          · rw [lt_n (by omega) (by omega), if_neg h3, lt_n (by omega) (by omega), show j = hi by omega]
            by_cases e : lo < hi
            · rw [if_pos e]
            · rw [if_neg e, show lo = hi by omega]
        · rw [le_n (by omega) (by omega), if_pos (by omega), le_n (by omega) (by omega), if_pos h2]
      · refine ⟨hi, h, Nat.le_refl _, ?_, ?_⟩
        · rw [lt_n (a := j) (b := hi) (by omega) (by omega), if_neg (show ¬ j < hi by omega), lt_n (by omega) (by omega)]
          by_cases e : lo < hi
          · rw [if_pos e]
          · rw [if_neg e, show lo = hi by omega]
        · rw [le_n (by omega) (by omega), if_pos (by omega), le_n (by omega) (by omega), if_neg h2]
