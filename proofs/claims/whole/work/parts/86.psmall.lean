/-! the small questions -/
theorem sim_counter : Sim_counter Rel := by
  intro M a b h
  obtain ⟨D, C, s, sv, K, h⟩ := h
  obtain ⟨A, ⟨w, p, q⟩, Z, ⟨mode, W, step, per, ch, ca, cb⟩, ⟨o, acc, hits, dir⟩, T⟩ := s
  obtain ⟨k1, k2, k3, k4, k5, k7, k8, k9, k14, ⟨k15, k15b⟩, k16⟩ := h.2.1
  have hD := k1.2.1
  unfold f10_counter f11_counter
  rw [h.2.2.2.2.1.1, h.2.2.2.2.1.2.2.1]
  rcases in_c a D (by omega) with ⟨e1, e2⟩ | ⟨r, hr, rfl, e2⟩
  · refine ⟨-2, ?_, by rw [e2]; rfl⟩
    by_cases h0 : a < 0
    · exact if_pos h0
    · rw [if_neg h0]; exact if_pos (e1.resolve_left h0)
  · rw [e2, bd_e, if_neg (show ¬ (1 : Int32) = 0 by decide)]
    rcases in_c b 64 (by omega) with ⟨e3, e4⟩ | ⟨c, hc, rfl, e4⟩
    · have e4 : f11_in b 0 63 = some 0 := e4
      refine ⟨-2, ?_, by rw [e4]; rfl⟩
      simp (disch := omega) only [rd_n, ck_n, wr_n, cl_n, st_e, b2_e, bd_e, ltp, lep, eqp, m1p, m1l, m1e, m1a, nI_add, pk_sub, pk_mul, dvp, nzp, up_s, up_x, up_01, if_true, if_false, Nat.not_lt_zero, Nat.zero_add, z_0, z_1, z_2, z_3, z_4, z_5, z_10, z_11, z_15, z_20, z_30, z_63, z_64, z_99, z_100, z_127, z_128, z_200, z_256, z_300, z_400, z_500, z_600, z_601, z_602, z_603, z_604, z_605, z_606, z_862, z_990, z_1000, z_1090, z_1390, z_1393, z_1394, z_1395, z_1396, z_1397, z_1398, z_1399, z_1400, z_1401, z_1402, z_1403, z_1404, z_1405, z_1705, z_1805, z_7220, if_neg (show ¬ D ≤ r by omega)]
      by_cases h0 : b < 0
      · exact if_pos h0
      · have h0 : ¬ b < nI 0 := h0
        rw [if_neg h0, if_neg (Int32.not_lt.mpr (e3.resolve_left h0))]
    · have e4 : f11_in (nI c) 0 63 = some 1 := e4
      rw [e4, bd_e, if_neg (show ¬ (1 : Int32) = 0 by decide)]
      refine ⟨nI (kC A r c), ?_, ?_⟩
      · simp (disch := omega) only [rd_n, ck_n, wr_n, cl_n, st_e, b2_e, bd_e, ltp, lep, eqp, m1p, m1l, m1e, m1a, nI_add, pk_sub, pk_mul, dvp, nzp, up_s, up_x, up_01, if_true, if_false, Nat.not_lt_zero, Nat.zero_add, z_0, z_1, z_2, z_3, z_4, z_5, z_10, z_11, z_15, z_20, z_30, z_63, z_64, z_99, z_100, z_127, z_128, z_200, z_256, z_300, z_400, z_500, z_600, z_601, z_602, z_603, z_604, z_605, z_606, z_862, z_990, z_1000, z_1090, z_1390, z_1393, z_1394, z_1395, z_1396, z_1397, z_1398, z_1399, z_1400, z_1401, z_1402, z_1403, z_1404, z_1405, z_1705, z_1805, z_7220, if_neg (show ¬ D ≤ r by omega), if_pos (show c < 64 by omega)]
        rw [h.2.2.1.1.2.2.2.2.2.2.2.2.1 r c (by omega) hc]
      · simp (disch := omega) only [rd_n, ck_n, wr_n, cl_n, st_e, b2_e, bd_e, ltp, lep, eqp, m1p, m1l, m1e, m1a, nI_add, pk_sub, pk_mul, dvp, nzp, up_s, up_x, up_01, if_true, if_false, Nat.not_lt_zero, Nat.zero_add, z_0, z_1, z_2, z_3, z_4, z_5, z_10, z_11, z_15, z_20, z_30, z_63, z_64, z_99, z_100, z_127, z_128, z_200, z_256, z_300, z_400, z_500, z_600, z_601, z_602, z_603, z_604, z_605, z_606, z_862, z_990, z_1000, z_1090, z_1390, z_1393, z_1394, z_1395, z_1396, z_1397, z_1398, z_1399, z_1400, z_1401, z_1402, z_1403, z_1404, z_1405, z_1705, z_1805, z_7220]
        rw [h.2.2.2.1.1.2.2.2.2.2.1 r c (by omega) hc]
theorem sim_bit : Sim_bit Rel := by
  intro M a h
  obtain ⟨D, C, s, sv, K, h⟩ := h
  obtain ⟨A, ⟨w, p, q⟩, Z, ⟨mode, W, step, per, ch, ca, cb⟩, ⟨o, acc, hits, dir⟩, T⟩ := s
  unfold f10_bit f11_bit
  rcases in_c a 128 (by omega) with ⟨e3, e4⟩ | ⟨c, hc, rfl, e4⟩
  · have e4 : f11_in a 0 127 = some 0 := e4
    refine ⟨-2, ?_, by rw [e4]; rfl⟩
    by_cases h0 : a < 0
    · exact if_pos h0
    · rw [if_neg h0]; exact if_pos (e3.resolve_left h0)
  · have e4 : f11_in (nI c) 0 127 = some 1 := e4
    rw [e4, bd_e, if_neg (show ¬ (1 : Int32) = 0 by decide)]
    refine ⟨nI (kB A c), ?_, ?_⟩
    · simp (disch := omega) only [rd_n, ck_n, wr_n, cl_n, st_e, b2_e, bd_e, ltp, lep, eqp, m1p, m1l, m1e, m1a, nI_add, pk_sub, pk_mul, dvp, nzp, up_s, up_x, up_01, if_true, if_false, Nat.not_lt_zero, Nat.zero_add, z_0, z_1, z_2, z_3, z_4, z_5, z_10, z_11, z_15, z_20, z_30, z_63, z_64, z_99, z_100, z_127, z_128, z_200, z_256, z_300, z_400, z_500, z_600, z_601, z_602, z_603, z_604, z_605, z_606, z_862, z_990, z_1000, z_1090, z_1390, z_1393, z_1394, z_1395, z_1396, z_1397, z_1398, z_1399, z_1400, z_1401, z_1402, z_1403, z_1404, z_1405, z_1705, z_1805, z_7220, if_neg (show ¬ 128 ≤ c by omega)]
      rw [h.2.2.1.1.2.2.2.2.2.2.2.2.2.1 c hc]
    · simp (disch := omega) only [rd_n, ck_n, wr_n, cl_n, st_e, b2_e, bd_e, ltp, lep, eqp, m1p, m1l, m1e, m1a, nI_add, pk_sub, pk_mul, dvp, nzp, up_s, up_x, up_01, if_true, if_false, Nat.not_lt_zero, Nat.zero_add, z_0, z_1, z_2, z_3, z_4, z_5, z_10, z_11, z_15, z_20, z_30, z_63, z_64, z_99, z_100, z_127, z_128, z_200, z_256, z_300, z_400, z_500, z_600, z_601, z_602, z_603, z_604, z_605, z_606, z_862, z_990, z_1000, z_1090, z_1390, z_1393, z_1394, z_1395, z_1396, z_1397, z_1398, z_1399, z_1400, z_1401, z_1402, z_1403, z_1404, z_1405, z_1705, z_1805, z_7220]
      rw [h.2.2.2.1.1.2.2.2.2.2.2.1 c hc]
theorem sim_where : Sim_where Rel := by
  intro M a h
  unfold f10_where f11_where
  rcases key_c a with ⟨e1, e2⟩ | ⟨k, hk, rfl, e1, e2⟩
  · exact ⟨_, by rw [e1]; rfl, by rw [e2]; rfl⟩
  · obtain ⟨D, C, s, sv, K, h⟩ := h
    obtain ⟨A, ⟨w, p, q⟩, Z, ⟨mode, W, step, per, ch, ca, cb⟩, ⟨o, acc, hits, dir⟩, T⟩ := s
    obtain ⟨k1, k2, k3, k4, k5, k7, k8, k9, k14, ⟨k15, k15b⟩, k16⟩ := h.2.1
    have hw := h.2.2.1.2.1.2.2.2.1 k hk
    rw [e1, e2]
    simp only [bd_e]
    rw [if_neg (show ¬ (1 : Int32) = 0 by decide), if_neg (show ¬ (1 : Int32) = 0 by decide), rd_n hk (by omega)]
    by_cases hin : ∃ r, r < 3 ∧ k ∈ L3 w p q r
    · obtain ⟨r, hr, hin⟩ := hin
      exact ⟨nI r, by rw [hw.1 r hr hin], by rw [pm_part hr k3 h.2.2.2.1.2.2.1 hk hin]; rfl⟩
    · have hn : ∀ r, r < 3 → k ∉ L3 w p q r := fun r hr hi => hin ⟨r, hr, hi⟩
      exact ⟨-1, by rw [hw.2 hn], by rw [pm_partN k3 h.2.2.2.1.2.2.1 hk hn]; rfl⟩
theorem sim_key : Sim_key Rel := by
  intro M a b h
  obtain ⟨D, C, s, sv, K, h⟩ := h
  obtain ⟨A, ⟨w, p, q⟩, Z, ⟨mode, W, step, per, ch, ca, cb⟩, ⟨o, acc, hits, dir⟩, T⟩ := s
  obtain ⟨k1, k2, k3, k4, k5, k7, k8, k9, k14, ⟨k15, k15b⟩, k16⟩ := h.2.1
  unfold f10_key f11_key
  rcases in_c a 3 (by omega) with ⟨e1, e2⟩ | ⟨r, hr, rfl, e2⟩
  · have e2 : f11_in a 0 2 = some 0 := e2
    refine ⟨-2, ?_, by rw [e2]; rfl⟩
    by_cases h0 : a < 0
    · exact if_pos h0
    · rw [if_neg h0]; exact if_pos (e1.resolve_left h0)
  · have e2 : f11_in (nI r) 0 2 = some 1 := e2
    have hl := k3.len hr
    rw [e2, bd_e, if_neg (show ¬ (1 : Int32) = 0 by decide), pm_len hr h.2.2.2.1.2.2.1, bd_e]
    simp (disch := omega) only [rd_n, ck_n, wr_n, cl_n, st_e, b2_e, bd_e, ltp, lep, eqp, m1p, m1l, m1e, m1a, nI_add, pk_sub, pk_mul, dvp, nzp, up_s, up_x, up_01, if_true, if_false, Nat.not_lt_zero, Nat.zero_add, z_0, z_1, z_2, z_3, z_4, z_5, z_10, z_11, z_15, z_20, z_30, z_63, z_64, z_99, z_100, z_127, z_128, z_200, z_256, z_300, z_400, z_500, z_600, z_601, z_602, z_603, z_604, z_605, z_606, z_862, z_990, z_1000, z_1090, z_1390, z_1393, z_1394, z_1395, z_1396, z_1397, z_1398, z_1399, z_1400, z_1401, z_1402, z_1403, z_1404, z_1405, z_1705, z_1805, z_7220, if_neg (show ¬ 3 ≤ r by omega)]
    have el := h.2.2.1.2.1.1 r hr
    unfold f5_keyAt
    rcases in_c b (L3 w p q r).length (by omega) with ⟨e3, e4⟩ | ⟨c, hc, rfl, e4⟩
    · have e4 : f11_in b (nI 0) (nI (L3 w p q r).length - nI 1) = some (nI 0) := e4
      refine ⟨-1, ?_, ?_⟩
      · by_cases h0 : b < 0
        · rw [if_pos h0]; rfl
        · rw [if_neg h0, rd_n hr (by omega), el, if_pos (e3.resolve_left h0)]; rfl
      · rw [e4]; rfl
    · have e4 : f11_in (nI c) (nI 0) (nI (L3 w p q r).length - nI 1) = some (nI 1) := e4
      refine ⟨nI (gt (L3 w p q r) c), ?_, ?_⟩
      · simp (disch := omega) only [rd_n, ck_n, wr_n, cl_n, st_e, b2_e, bd_e, ltp, lep, eqp, m1p, m1l, m1e, m1a, nI_add, pk_sub, pk_mul, dvp, nzp, up_s, up_x, up_01, if_true, if_false, Nat.not_lt_zero, Nat.zero_add, z_0, z_1, z_2, z_3, z_4, z_5, z_10, z_11, z_15, z_20, z_30, z_63, z_64, z_99, z_100, z_127, z_128, z_200, z_256, z_300, z_400, z_500, z_600, z_601, z_602, z_603, z_604, z_605, z_606, z_862, z_990, z_1000, z_1090, z_1390, z_1393, z_1394, z_1395, z_1396, z_1397, z_1398, z_1399, z_1400, z_1401, z_1402, z_1403, z_1404, z_1405, z_1705, z_1805, z_7220, el, if_neg (show ¬ (L3 w p q r).length ≤ c by omega), h.2.2.1.2.1.2.2.1 r c hr hc]
      · rw [e4]
        simp (disch := omega) only [bd_e, eqp, if_neg (show ¬ (1 : Nat) = 0 by decide)]
        rw [pm_key hr h.2.2.2.1.2.2.1 hl hc]
        rfl
theorem sim_trace : Sim_trace Rel := by
  intro M a h
  obtain ⟨D, C, s, sv, K, h⟩ := h
  obtain ⟨A, ⟨w, p, q⟩, Z, ⟨mode, W, step, per, ch, ca, cb⟩, ⟨o, acc, hits, dir⟩, T⟩ := s
  obtain ⟨k1, k2, k3, k4, k5, k7, k8, k9, k14, ⟨k15, k15b⟩, k16⟩ := h.2.1
  unfold f10_trace f11_trace
  have hV := h.2.2.2.1.2.2.2.2.2.2.2
  rw [z_1404, rd_n (by omega) (by omega), hV.1]
  have hG := h.2.2.1.2.2.2.1
  rcases in_c a T.length (by omega) with ⟨e1, e2⟩ | ⟨r, hr, rfl, e2⟩
  · refine ⟨-1, ?_, by rw [e2]; rfl⟩
    obtain ⟨e, he, g1, g2, g3⟩ := hG
    unfold f9_keyAt
    by_cases h0 : a < 0
    · rw [if_pos h0]; rfl
    · rw [if_neg h0, g2, if_pos (e1.resolve_left h0)]; rfl
  · rw [e2]
    refine ⟨nI (gt T r), ?_, ?_⟩
    · rw [pt_key k15 hG hr]; rfl
    · simp only [bd_e]
      rw [if_neg (by decide)]
      simp (disch := omega) only [rd_n, ck_n, wr_n, cl_n, st_e, b2_e, bd_e, ltp, lep, eqp, m1p, m1l, m1e, m1a, nI_add, pk_sub, pk_mul, dvp, nzp, up_s, up_x, up_01, if_true, if_false, Nat.not_lt_zero, Nat.zero_add, z_0, z_1, z_2, z_3, z_4, z_5, z_10, z_11, z_15, z_20, z_30, z_63, z_64, z_99, z_100, z_127, z_128, z_200, z_256, z_300, z_400, z_500, z_600, z_601, z_602, z_603, z_604, z_605, z_606, z_862, z_990, z_1000, z_1090, z_1390, z_1393, z_1394, z_1395, z_1396, z_1397, z_1398, z_1399, z_1400, z_1401, z_1402, z_1403, z_1404, z_1405, z_1705, z_1805, z_7220]
      rw [hV.2 r hr]
theorem sim_kept : Sim_kept Rel := by
  intro M a h
  obtain ⟨D, C, s, sv, K, h⟩ := h
  obtain ⟨h1, h2, h3, h4, h5⟩ := h.2.2.2.2.2.2.1
  unfold f10_kept f11_kept f3_keptAt
  rw [h4]
  rcases in_c a K.length (by omega) with ⟨e1, e2⟩ | ⟨r, hr, rfl, e2⟩
  · refine ⟨-1, ?_, by rw [e2]; rfl⟩
    by_cases h0 : a < 0
    · rw [if_pos h0]; rfl
    · rw [if_neg h0, h2, if_pos (e1.resolve_left h0)]; rfl
  · rw [e2]
    refine ⟨nI (gt K r), ?_, ?_⟩
    · simp (disch := omega) only [rd_n, ck_n, wr_n, cl_n, st_e, b2_e, bd_e, ltp, lep, eqp, m1p, m1l, m1e, m1a, nI_add, pk_sub, pk_mul, dvp, nzp, up_s, up_x, up_01, if_true, if_false, Nat.not_lt_zero, Nat.zero_add, z_0, z_1, z_2, z_3, z_4, z_5, z_10, z_11, z_15, z_20, z_30, z_63, z_64, z_99, z_100, z_127, z_128, z_200, z_256, z_300, z_400, z_500, z_600, z_601, z_602, z_603, z_604, z_605, z_606, z_862, z_990, z_1000, z_1090, z_1390, z_1393, z_1394, z_1395, z_1396, z_1397, z_1398, z_1399, z_1400, z_1401, z_1402, z_1403, z_1404, z_1405, z_1705, z_1805, z_7220, h2, if_neg (show ¬ K.length ≤ r by omega), h3 r hr]
    · simp only [bd_e]
      rw [if_neg (by decide), rd_n (by omega) (by omega), h5 r hr]
theorem sim_about : Sim_about Rel := by
  intro M a h
  obtain ⟨D, C, s, sv, K, h⟩ := h
  obtain ⟨A, ⟨w, p, q⟩, Z, ⟨mode, W, step, per, ch, ca, cb⟩, ⟨o, acc, hits, dir⟩, T⟩ := s
  obtain ⟨k1, k2, k3, k4, k5, k7, k8, k9, k14, ⟨k15, k15b⟩, k16⟩ := h.2.1
  obtain ⟨s1, s2, s3, s4, s5, s6, s7⟩ := h.2.2.1
  obtain ⟨x1, x2, x3, xV⟩ := h.2.2.2.1
  have hC := h.1.2
  have hCW : C - W ≤ 200 := by omega
  obtain ⟨ec, hec, g1, g2, g3⟩ := s4
  have hl := v_len k3
  rw [List.length_append] at hl
  have e0 : M 0 3 2 0 = nI w.length := s2.1 0 (by decide)
  have e1 : M 0 3 2 1 = nI p.length := s2.1 1 (by decide)
  have e2 : M 0 3 2 2 = nI q.length := s2.1 2 (by decide)
  have u0 : M 0 3 3 0 = nI (uS Z w) := s2.2.1 0 (by decide)
  have u1 : M 0 3 3 1 = nI (uS Z p) := s2.2.1 1 (by decide)
  have u2 : M 0 3 3 2 = nI (uS Z q) := s2.2.1 2 (by decide)
  have q0 : f11_units (M 7 0) (nI 0) = some (nI (uS Z w)) := pm_units (L := L3 w p q) (by decide) k3 x3
  have q1 : f11_units (M 7 0) (nI 1) = some (nI (uS Z p)) := pm_units (L := L3 w p q) (by decide) k3 x3
  have q2 : f11_units (M 7 0) (nI 2) = some (nI (uS Z q)) := pm_units (L := L3 w p q) (by decide) k3 x3
  have l0 : f11_length (M 7 0) (nI 0) = some (nI w.length) := pm_len (L := L3 w p q) (by decide) x3
  have l1 : f11_length (M 7 0) (nI 1) = some (nI p.length) := pm_len (L := L3 w p q) (by decide) x3
  have l2 : f11_length (M 7 0) (nI 2) = some (nI q.length) := pm_len (L := L3 w p q) (by decide) x3
  unfold f10_about f8_tellAbout f11_about f0_protectedLimit f0_keysThere f0_keysInMain
  by_cases c0 : a = 0
  · subst c0
    exact ⟨nI W, by rw [if_pos rfl, s3.2.2.1]; rfl, by rw [if_pos rfl, z_1393, rd_n (by omega) (by omega), xV.2.1.1]⟩
  by_cases c1 : a = 1
  · subst c1
    refine ⟨nI ((C - W) * 4 / 5), ?_, by rw [if_neg c0, if_pos rfl, z_1394, rd_n (by omega) (by omega), xV.2.1.2]⟩
    rw [if_neg c0, if_pos rfl, s3.1, s3.2.2.1]
    simp (disch := omega) only [rd_n, ck_n, wr_n, cl_n, st_e, b2_e, bd_e, ltp, lep, eqp, m1p, m1l, m1e, m1a, nI_add, pk_sub, pk_mul, dvp, nzp, up_s, up_x, up_01, if_true, if_false, Nat.not_lt_zero, Nat.zero_add, z_0, z_1, z_2, z_3, z_4, z_5, z_10, z_11, z_15, z_20, z_30, z_63, z_64, z_99, z_100, z_127, z_128, z_200, z_256, z_300, z_400, z_500, z_600, z_601, z_602, z_603, z_604, z_605, z_606, z_862, z_990, z_1000, z_1090, z_1390, z_1393, z_1394, z_1395, z_1396, z_1397, z_1398, z_1399, z_1400, z_1401, z_1402, z_1403, z_1404, z_1405, z_1705, z_1805, z_7220]
  by_cases c2 : a = 2
  · subst c2
    refine ⟨nI (uS Z w), ?_, ?_⟩
    · rw [if_neg c0, if_neg c1, if_pos rfl, z_0, rd_n (by omega) (by omega), u0]; rfl
    · rw [if_neg c0, if_neg c1, if_pos rfl, show (2 : Int32) - 2 = nI 0 from rfl, q0]; rfl
  by_cases c3 : a = 3
  · subst c3
    refine ⟨nI (uS Z p), ?_, ?_⟩
    · rw [if_neg c0, if_neg c1, if_neg c2, if_pos rfl, z_1, rd_n (by omega) (by omega), u1]; rfl
    · rw [if_neg c0, if_neg c1, if_neg c2, if_pos rfl, show (3 : Int32) - 2 = nI 1 from rfl, q1]; rfl
  by_cases c4 : a = 4
  · subst c4
    refine ⟨nI (uS Z q), ?_, ?_⟩
    · rw [if_neg c0, if_neg c1, if_neg c2, if_neg c3, if_pos rfl, z_2, rd_n (by omega) (by omega), u2]; rfl
    · rw [if_neg c0, if_neg c1, if_neg c2, if_neg c3, if_pos rfl, show (4 : Int32) - 2 = nI 2 from rfl, q2]; rfl
  by_cases c5 : a = 5
  · subst c5
    refine ⟨nI (w.length + p.length + q.length), ?_, ?_⟩
    · rw [if_neg c0, if_neg c1, if_neg c2, if_neg c3, if_neg c4, if_pos rfl]
      simp (disch := omega) only [rd_n, ck_n, wr_n, cl_n, st_e, b2_e, bd_e, ltp, lep, eqp, m1p, m1l, m1e, m1a, nI_add, pk_sub, pk_mul, dvp, nzp, up_s, up_x, up_01, if_true, if_false, Nat.not_lt_zero, Nat.zero_add, z_0, z_1, z_2, z_3, z_4, z_5, z_10, z_11, z_15, z_20, z_30, z_63, z_64, z_99, z_100, z_127, z_128, z_200, z_256, z_300, z_400, z_500, z_600, z_601, z_602, z_603, z_604, z_605, z_606, z_862, z_990, z_1000, z_1090, z_1390, z_1393, z_1394, z_1395, z_1396, z_1397, z_1398, z_1399, z_1400, z_1401, z_1402, z_1403, z_1404, z_1405, z_1705, z_1805, z_7220, e0, e1, e2]
      rw [Nat.add_assoc]
    · rw [if_neg c0, if_neg c1, if_neg c2, if_neg c3, if_neg c4, if_pos rfl]
      simp (disch := omega) only [rd_n, ck_n, wr_n, cl_n, st_e, b2_e, bd_e, ltp, lep, eqp, m1p, m1l, m1e, m1a, nI_add, pk_sub, pk_mul, dvp, nzp, up_s, up_x, up_01, if_true, if_false, Nat.not_lt_zero, Nat.zero_add, z_0, z_1, z_2, z_3, z_4, z_5, z_10, z_11, z_15, z_20, z_30, z_63, z_64, z_99, z_100, z_127, z_128, z_200, z_256, z_300, z_400, z_500, z_600, z_601, z_602, z_603, z_604, z_605, z_606, z_862, z_990, z_1000, z_1090, z_1390, z_1393, z_1394, z_1395, z_1396, z_1397, z_1398, z_1399, z_1400, z_1401, z_1402, z_1403, z_1404, z_1405, z_1705, z_1805, z_7220, l0, l1, l2]
  rw [if_neg c0, if_neg c1, if_neg c2, if_neg c3, if_neg c4, if_neg c5, if_neg c0, if_neg c1, if_neg c2, if_neg c3, if_neg c4, if_neg c5]
  by_cases c6 : a = 6
  · subst c6
    exact ⟨nI (kS A 3), by rw [if_pos rfl, s1.2.2.2.2.1]; rfl, by rw [if_pos rfl, z_1395, rd_n (by omega) (by omega), x1.2.2.2.2.2.2.2.1]⟩
  by_cases c7 : a = 7
  · subst c7
    exact ⟨kG A, by rw [if_neg c6, if_pos rfl, s1.2.2.2.2.2.1]; rfl, by rw [if_neg c6, if_pos rfl, z_1396, rd_n (by omega) (by omega), x1.2.2.2.2.2.2.2.2]⟩
  by_cases c8 : a = 8
  · subst c8
    exact ⟨acc, by rw [if_neg c6, if_neg c7, if_pos rfl, s6]; rfl, by rw [if_neg c6, if_neg c7, if_pos rfl, z_1397, rd_n (by omega) (by omega), xV.2.2.1.1]⟩
  by_cases c9 : a = 9
  · subst c9
    exact ⟨hits, by rw [if_neg c6, if_neg c7, if_neg c8, if_pos rfl, s7]; rfl, by rw [if_neg c6, if_neg c7, if_neg c8, if_pos rfl, z_1398, rd_n (by omega) (by omega), xV.2.2.1.2.1]⟩
  rw [if_neg c6, if_neg c7, if_neg c8, if_neg c9, if_neg c6, if_neg c7, if_neg c8, if_neg c9]
  by_cases c10 : a = 10
  · subst c10
    exact ⟨o, by rw [if_pos rfl, s3.2.2.2]; rfl, by rw [if_pos rfl, z_1399, rd_n (by omega) (by omega), xV.2.2.1.2.2.1]⟩
  by_cases c11 : a = 11
  · subst c11
    exact ⟨dir, by rw [if_neg c10, if_pos rfl, s5.2.2.1]; rfl, by rw [if_neg c10, if_pos rfl, z_1400, rd_n (by omega) (by omega), xV.2.2.1.2.2.2]⟩
  by_cases c12 : a = 12
  · subst c12
    exact ⟨nI ch, by rw [if_neg c10, if_neg c11, if_pos rfl, s5.2.2.2.1]; rfl, by rw [if_neg c10, if_neg c11, if_pos rfl, z_1401, rd_n (by omega) (by omega), xV.2.2.2.1.1]⟩
  by_cases c13 : a = 13
  · subst c13
    exact ⟨nI ca, by rw [if_neg c10, if_neg c11, if_neg c12, if_pos rfl, s5.2.2.2.2.1]; rfl, by rw [if_neg c10, if_neg c11, if_neg c12, if_pos rfl, z_1402, rd_n (by omega) (by omega), xV.2.2.2.1.2.1]⟩
  rw [if_neg c10, if_neg c11, if_neg c12, if_neg c13, if_neg c10, if_neg c11, if_neg c12, if_neg c13]
  by_cases c14 : a = 14
  · subst c14
    exact ⟨nI cb, by rw [if_pos rfl, s5.2.2.2.2.2]; rfl, by rw [if_pos rfl, z_1403, rd_n (by omega) (by omega), xV.2.2.2.1.2.2]⟩
  by_cases c15 : a = 15
  · subst c15
    exact ⟨nI T.length, by rw [if_neg c14, if_pos rfl, g2]; rfl, by rw [if_neg c14, if_pos rfl, z_1404, rd_n (by omega) (by omega), xV.2.2.2.2.1]⟩
  exact ⟨-2, by rw [if_neg c14, if_neg c15]; rfl, by rw [if_neg c14, if_neg c15]⟩
