/-! an access, from its beginning -/
def accT (w1 : Int32) (g20 : Sg) : Option (Int32 × Sg) := ((f11_count w1 g20).bind (fun g22 => ((f11_partOf g22 w1).bind (fun r25 => (if r25 < 0 then (rd 1805 (g22 1) ((990 : Int32) + w1) (fun v29 => (if (g22 0 1) < v29 then (f11_accessed_j209 w1 r25 g22) else (rd 1805 (g22 1) ((990 : Int32) + w1) (fun v32 => (rd 1805 (g22 1) (1393 : Int32) (fun v34 => (if v32 ≤ v34 then ((f11_append (0 : Int32) w1 g22).bind (fun g37 => ((f11_overflow g37).bind (fun g40 => (f11_accessed_j209 w1 r25 g40))))) else ((f11_candidate w1 g22).bind (fun g43 => (f11_accessed_j209 w1 r25 g43))))))))))) else ((f11_indexOf g22 r25 w1).bind (fun r46 => (b2 (f11_take r25 r46 g22) (fun r50 g49 => (if r25 = 0 then ((f11_append (0 : Int32) r50 g49).bind (fun g60 => ((f11_settle g60).bind (fun g63 => (f11_accessed_j209 w1 r25 g63))))) else ((f11_append (2 : Int32) r50 g49).bind (fun g54 => ((f11_settle g54).bind (fun g57 => (f11_accessed_j209 w1 r25 g57)))))))))))))))
theorem acc_75 {w1 : Int32} {g : Sg} : f11_accessed_j75 w1 g = (rd 1805 (g 1) (1404 : Int32) (fun v14 => (wr 1805 ((1405 : Int32) + v14) (va_up g 1 (upd (g 1) (((1405 : Int32) + v14)).toNatClampNeg w1)) (fun g16 => (rd 1805 (g16 1) (1404 : Int32) (fun v18 => (wr 1805 (1404 : Int32) (va_up g16 1 (upd (g16 1) ((1404 : Int32)).toNatClampNeg (v18 + (1 : Int32)))) (fun g20 => accT w1 g20)))))))) := rfl
theorem pm_shift (g : Sg) (x : Nat → Int32) (k : Nat) : ∀ (n i : Nat), 1 ≤ i → i ≤ 300 → 300 - i < n → f11_accessed_l28 n (nI k) (nI i) (va_up g 1 (ov (fun j => x (j + 1)) 1405 (i - 1) x)) = f11_accessed_j63 (nI k) (va_up g 1 (ov (fun j => x (j + 1)) 1405 299 x)) := by
  intro n
  induction n with
  | zero => intro i h1 h2; omega
  | succ n ih =>
    intro i h1 h2 h3
    show f11_accessed_b28 (f11_accessed_l28 n) (nI k) (nI i) _ = _
    unfold f11_accessed_b28
    by_cases hi : 300 ≤ i
    · simp (disch := omega) only [rd_n, ck_n, wr_n, cl_n, st_e, b2_e, bd_e, ltp, lep, eqp, m1p, m1l, m1e, m1a, nI_add, pk_sub, pk_mul, dvp, nzp, up_s, up_x, up_01, if_true, if_false, Nat.not_lt_zero, Nat.zero_add, z_0, z_1, z_2, z_3, z_4, z_5, z_10, z_11, z_15, z_20, z_30, z_63, z_64, z_99, z_100, z_127, z_128, z_200, z_256, z_300, z_400, z_500, z_600, z_601, z_602, z_603, z_604, z_605, z_606, z_862, z_990, z_1000, z_1090, z_1390, z_1393, z_1394, z_1395, z_1396, z_1397, z_1398, z_1399, z_1400, z_1401, z_1402, z_1403, z_1404, z_1405, z_1705, z_1805, z_7220, if_pos hi]
      rw [show i - 1 = 299 by omega]
    · have e := ih (i + 1) (by omega) (by omega) (by omega)
      rw [show i + 1 - 1 = (i - 1) + 1 by omega, ← ov_s (v := x (1405 + i)) (by show _ = x (1405 + (i - 1) + 1); congr 1; omega), show 1405 + (i - 1) = 1405 + i - 1 by omega] at e
      simp (disch := omega) only [rd_n, ck_n, wr_n, cl_n, st_e, b2_e, bd_e, ltp, lep, eqp, m1p, m1l, m1e, m1a, nI_add, pk_sub, pk_mul, dvp, nzp, up_s, up_x, up_01, if_true, if_false, Nat.not_lt_zero, Nat.zero_add, z_0, z_1, z_2, z_3, z_4, z_5, z_10, z_11, z_15, z_20, z_30, z_63, z_64, z_99, z_100, z_127, z_128, z_200, z_256, z_300, z_400, z_500, z_600, z_601, z_602, z_603, z_604, z_605, z_606, z_862, z_990, z_1000, z_1090, z_1390, z_1393, z_1394, z_1395, z_1396, z_1397, z_1398, z_1399, z_1400, z_1401, z_1402, z_1403, z_1404, z_1405, z_1705, z_1805, z_7220, if_neg hi, ov_ge]
      exact e
theorem pm_note {g : Sg} {x : Nat → Int32} {T : List Nat} {k : Nat} (hT : T.length ≤ 300) (hl : x 1404 = nI T.length) (he : ∀ i, i < T.length → x (1405 + i) = nI (gt T i)) : ∃ y, f11_accessed (nI k) (va_up g 1 x) = accT (nI k) (va_up g 1 y) ∧ (∀ j, j ≠ 1397 → j ≠ 1404 → (j < 1405 ∨ 1705 ≤ j) → y j = x j) ∧ y 1397 = x 1397 + nI 1 ∧ y 1404 = nI (ntT T k).length ∧ ∀ i, i < (ntT T k).length → y (1405 + i) = nI (gt (ntT T k) i) := by
  unfold f11_accessed
  have hnl := nt_len (k := k) hT
  by_cases h : T.length = 300
  · rw [if_pos h] at hnl
    have es := pm_shift g (upd x 1397 (x 1397 + nI 1)) k NF 1 (by decide) (by decide) (by decide)
    rw [Nat.sub_self, ov_0] at es
    simp (disch := omega) only [rd_n, ck_n, wr_n, cl_n, st_e, b2_e, bd_e, ltp, lep, eqp, m1p, m1l, m1e, m1a, nI_add, pk_sub, pk_mul, dvp, nzp, up_s, up_x, up_01, if_true, if_false, Nat.not_lt_zero, Nat.zero_add, z_0, z_1, z_2, z_3, z_4, z_5, z_10, z_11, z_15, z_20, z_30, z_63, z_64, z_99, z_100, z_127, z_128, z_200, z_256, z_300, z_400, z_500, z_600, z_601, z_602, z_603, z_604, z_605, z_606, z_862, z_990, z_1000, z_1090, z_1390, z_1393, z_1394, z_1395, z_1396, z_1397, z_1398, z_1399, z_1400, z_1401, z_1402, z_1403, z_1404, z_1405, z_1705, z_1805, z_7220, ud_n, hl, if_pos h, es]
    unfold f11_accessed_j63
    have hl2 : nI T.length = nI 300 := by rw [h]
    simp (disch := omega) only [rd_n, ck_n, wr_n, cl_n, st_e, b2_e, bd_e, ltp, lep, eqp, m1p, m1l, m1e, m1a, nI_add, pk_sub, pk_mul, dvp, nzp, up_s, up_x, up_01, if_true, if_false, Nat.not_lt_zero, Nat.zero_add, z_0, z_1, z_2, z_3, z_4, z_5, z_10, z_11, z_15, z_20, z_30, z_63, z_64, z_99, z_100, z_127, z_128, z_200, z_256, z_300, z_400, z_500, z_600, z_601, z_602, z_603, z_604, z_605, z_606, z_862, z_990, z_1000, z_1090, z_1390, z_1393, z_1394, z_1395, z_1396, z_1397, z_1398, z_1399, z_1400, z_1401, z_1402, z_1403, z_1404, z_1405, z_1705, z_1805, z_7220, ov_lt, ud_n, hl, hl2]
    rw [acc_75]
    simp (disch := omega) only [rd_n, ck_n, wr_n, cl_n, st_e, b2_e, bd_e, ltp, lep, eqp, m1p, m1l, m1e, m1a, nI_add, pk_sub, pk_mul, dvp, nzp, up_s, up_x, up_01, if_true, if_false, Nat.not_lt_zero, Nat.zero_add, z_0, z_1, z_2, z_3, z_4, z_5, z_10, z_11, z_15, z_20, z_30, z_63, z_64, z_99, z_100, z_127, z_128, z_200, z_256, z_300, z_400, z_500, z_600, z_601, z_602, z_603, z_604, z_605, z_606, z_862, z_990, z_1000, z_1090, z_1390, z_1393, z_1394, z_1395, z_1396, z_1397, z_1398, z_1399, z_1400, z_1401, z_1402, z_1403, z_1404, z_1405, z_1705, z_1805, z_7220, ud_s, ud_n, ov_lt]
    refine ⟨_, rfl, fun j h1 h2 h3 => ?_, ?_, ?_, fun i hi => ?_⟩
    · rw [ud_n h2, ud_n (by omega), ud_n h2, ov_o (by omega), ud_n h1]
    · rw [ud_n (by decide), ud_n (by decide), ud_n (by decide), ov_lt (by decide), ud_s]
    · rw [ud_s, hnl]
    · rw [hnl] at hi
      unfold ntT
      rw [if_pos h, ud_n (by omega), gt_app, List.length_tail]
      by_cases hi2 : i < T.length - 1
      · rw [if_pos hi2, ud_n (by omega), ud_n (by omega), ov_in (by omega) (by omega), ud_n (by omega), gt_tl, ← he (i + 1) (by omega)]
        congr 1
      · rw [if_neg hi2, show i = 299 by omega, ud_s, show 299 - (T.length - 1) = 0 by omega]
        rfl
  · rw [if_neg h] at hnl
    simp (disch := omega) only [rd_n, ck_n, wr_n, cl_n, st_e, b2_e, bd_e, ltp, lep, eqp, m1p, m1l, m1e, m1a, nI_add, pk_sub, pk_mul, dvp, nzp, up_s, up_x, up_01, if_true, if_false, Nat.not_lt_zero, Nat.zero_add, z_0, z_1, z_2, z_3, z_4, z_5, z_10, z_11, z_15, z_20, z_30, z_63, z_64, z_99, z_100, z_127, z_128, z_200, z_256, z_300, z_400, z_500, z_600, z_601, z_602, z_603, z_604, z_605, z_606, z_862, z_990, z_1000, z_1090, z_1390, z_1393, z_1394, z_1395, z_1396, z_1397, z_1398, z_1399, z_1400, z_1401, z_1402, z_1403, z_1404, z_1405, z_1705, z_1805, z_7220, ud_n, hl, if_neg h]
    rw [acc_75]
    simp (disch := omega) only [rd_n, ck_n, wr_n, cl_n, st_e, b2_e, bd_e, ltp, lep, eqp, m1p, m1l, m1e, m1a, nI_add, pk_sub, pk_mul, dvp, nzp, up_s, up_x, up_01, if_true, if_false, Nat.not_lt_zero, Nat.zero_add, z_0, z_1, z_2, z_3, z_4, z_5, z_10, z_11, z_15, z_20, z_30, z_63, z_64, z_99, z_100, z_127, z_128, z_200, z_256, z_300, z_400, z_500, z_600, z_601, z_602, z_603, z_604, z_605, z_606, z_862, z_990, z_1000, z_1090, z_1390, z_1393, z_1394, z_1395, z_1396, z_1397, z_1398, z_1399, z_1400, z_1401, z_1402, z_1403, z_1404, z_1405, z_1705, z_1805, z_7220, ud_n, hl]
    refine ⟨_, rfl, fun j h1 h2 h3 => ?_, ?_, ?_, fun i hi => ?_⟩
    · rw [ud_n h2, ud_n (by omega), ud_n h1]
    · rw [ud_n (by decide), ud_n (by omega), ud_s]
    · rw [ud_s, hnl]
    · rw [hnl] at hi
      unfold ntT
      rw [if_neg h, ud_n (by omega), gt_app]
      by_cases hi2 : i < T.length
      · rw [if_pos hi2, ud_n (by omega), ud_n (by omega)]
        exact he i hi2
      · rw [if_neg hi2, show i = T.length by omega, ud_s, Nat.sub_self]
        rfl
theorem er_n {k : Nat} {l : List Nat} (h : k ∉ l) : l.erase k = l := List.erase_of_not_mem h
theorem uS_mv {Z : Nat → Nat} {k : Nat} {l : List Nat} (h : k ∈ l) : uS Z (l.erase k ++ [k]) = uS Z l := by
  rw [uS_app, ← uS_erase l h]
  rfl
