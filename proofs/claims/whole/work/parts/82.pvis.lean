/-! the climb's periods, the class -/
theorem RB.eta {step per : Nat} {dir : Int32} {ch ca cb : Nat} {f : Nat → Int32} (h : RB step per dir ch ca cb f) : f 0 = nI step ∧ f 1 = nI per ∧ f 2 = dir ∧ f 3 = nI ch ∧ f 4 = nI ca ∧ f 5 = nI cb := h
theorem pb_0 {g : Sg} {h : Int32} (h0 : g 0 0 = nI 0) : f1_growthAfter h g = some (nI 0, g) := by
  unfold f1_growthAfter
  rw [h0, if_pos (show nI 0 = 0 from rfl)]
  rfl
theorem pb_1 {step per : Nat} {dir : Int32} {ch ca cb t : Nat} {g : Sg} (h : RB step per dir ch ca cb (g 0)) (h1 : 0 < step) (h2 : step < 1000) (h3 : per < 1000) (h4 : ca + 1 < per) (h5 : ch < 1000) (ht : t ≤ 1) : ∃ g2, f1_growthAfter (nI t) g = some (nI 0, g2) ∧ RB step per dir (ch + t) (ca + 1) cb (g2 0) := by
  obtain ⟨a0, a1, a2, a3, a4, a5⟩ := h
  unfold f1_growthAfter f1_growthAfter_j33
  by_cases e : t = 0
  · subst e
    simp (disch := omega) only [rd_n, ck_n, wr_n, cl_n, st_e, b2_e, bd_e, ltp, lep, eqp, m1p, m1l, m1e, m1a, nI_add, pk_sub, pk_mul, dvp, nzp, up_s, up_x, up_01, if_true, if_false, Nat.not_lt_zero, Nat.zero_add, z_0, z_1, z_2, z_3, z_4, z_5, z_10, z_11, z_15, z_20, z_30, z_63, z_64, z_99, z_100, z_127, z_128, z_200, z_256, z_300, z_400, z_500, z_600, z_601, z_602, z_603, z_604, z_605, z_606, z_862, z_990, z_1000, z_1090, z_1390, z_1393, z_1394, z_1395, z_1396, z_1397, z_1398, z_1399, z_1400, z_1401, z_1402, z_1403, z_1404, z_1405, z_1705, z_1805, z_7220, a0, if_neg (show ¬ step = 0 by omega), ud_n, ud_s, a1, a4, if_neg (show ¬ per ≤ ca + 1 by omega)]
    refine ⟨_, rfl, ?_⟩
    rw [up_s]
    exact ⟨by rw [ud_n (by decide)]; exact a0, by rw [ud_n (by decide)]; exact a1, by rw [ud_n (by decide)]; exact a2, by rw [ud_n (by decide)]; exact a3, by rw [ud_s], by rw [ud_n (by decide)]; exact a5⟩
  · have e : t = 1 := by omega
    subst e
    simp (disch := omega) only [rd_n, ck_n, wr_n, cl_n, st_e, b2_e, bd_e, ltp, lep, eqp, m1p, m1l, m1e, m1a, nI_add, pk_sub, pk_mul, dvp, nzp, up_s, up_x, up_01, if_true, if_false, Nat.not_lt_zero, Nat.zero_add, z_0, z_1, z_2, z_3, z_4, z_5, z_10, z_11, z_15, z_20, z_30, z_63, z_64, z_99, z_100, z_127, z_128, z_200, z_256, z_300, z_400, z_500, z_600, z_601, z_602, z_603, z_604, z_605, z_606, z_862, z_990, z_1000, z_1090, z_1390, z_1393, z_1394, z_1395, z_1396, z_1397, z_1398, z_1399, z_1400, z_1401, z_1402, z_1403, z_1404, z_1405, z_1705, z_1805, z_7220, a0, if_neg (show ¬ step = 0 by omega), if_neg (show ¬ 1 = 0 by decide), ud_n, ud_s, a1, a4, if_neg (show ¬ per ≤ ca + 1 by omega)]
    refine ⟨_, rfl, ?_⟩
    rw [up_s]
    exact ⟨by rw [ud_n (by decide), ud_n (by decide)]; exact a0, by rw [ud_n (by decide), ud_n (by decide)]; exact a1, by rw [ud_n (by decide), ud_n (by decide)]; exact a2, by rw [ud_s, a3, nI_add], by rw [ud_n (by decide), ud_s], by rw [ud_n (by decide), ud_n (by decide)]; exact a5⟩
theorem pb_2 {step per : Nat} {dir : Int32} {ch ca cb t : Nat} {g : Sg} (h : RB step per dir ch ca cb (g 0)) (h1 : 0 < step) (h2 : step < 1000) (h3 : per < 1000) (h4 : ca + 1 = per) (h5 : ch < 1000) (h6 : cb < 1000) (ht : t ≤ 1) : ∃ g2, f1_growthAfter (nI t) g = some ((if ch + t < cb then -dir else dir) * nI step, g2) ∧ RB step per (if ch + t < cb then -dir else dir) 0 0 (ch + t) (g2 0) := by
  obtain ⟨a0, a1, a2, a3, a4, a5⟩ := h
  unfold f1_growthAfter f1_growthAfter_j33 f1_growthAfter_j66
  by_cases e : t = 0
  · subst e
    by_cases hl : ch + 0 < cb
    · simp (disch := omega) only [rd_n, ck_n, wr_n, cl_n, st_e, b2_e, bd_e, ltp, lep, eqp, m1p, m1l, m1e, m1a, nI_add, pk_sub, pk_mul, dvp, nzp, up_s, up_x, up_01, if_true, if_false, Nat.not_lt_zero, Nat.zero_add, z_0, z_1, z_2, z_3, z_4, z_5, z_10, z_11, z_15, z_20, z_30, z_63, z_64, z_99, z_100, z_127, z_128, z_200, z_256, z_300, z_400, z_500, z_600, z_601, z_602, z_603, z_604, z_605, z_606, z_862, z_990, z_1000, z_1090, z_1390, z_1393, z_1394, z_1395, z_1396, z_1397, z_1398, z_1399, z_1400, z_1401, z_1402, z_1403, z_1404, z_1405, z_1705, z_1805, z_7220, a0, if_neg (show ¬ step = 0 by omega), ud_n, ud_s, a1, a3, a4, a5, if_pos (show per ≤ ca + 1 by omega), if_neg (show ¬ cb ≤ ch by omega), a2, if_pos hl]
      refine ⟨_, rfl, ?_⟩
      rw [up_s]
      refine ⟨?_, ?_, ?_, ?_, ?_, ?_⟩ <;> simp (disch := omega) only [ud_s, ud_n, a0, a1, a2, a3, a4, a5, Nat.add_zero]
    · simp (disch := omega) only [rd_n, ck_n, wr_n, cl_n, st_e, b2_e, bd_e, ltp, lep, eqp, m1p, m1l, m1e, m1a, nI_add, pk_sub, pk_mul, dvp, nzp, up_s, up_x, up_01, if_true, if_false, Nat.not_lt_zero, Nat.zero_add, z_0, z_1, z_2, z_3, z_4, z_5, z_10, z_11, z_15, z_20, z_30, z_63, z_64, z_99, z_100, z_127, z_128, z_200, z_256, z_300, z_400, z_500, z_600, z_601, z_602, z_603, z_604, z_605, z_606, z_862, z_990, z_1000, z_1090, z_1390, z_1393, z_1394, z_1395, z_1396, z_1397, z_1398, z_1399, z_1400, z_1401, z_1402, z_1403, z_1404, z_1405, z_1705, z_1805, z_7220, a0, if_neg (show ¬ step = 0 by omega), ud_n, ud_s, a1, a3, a4, a5, if_pos (show per ≤ ca + 1 by omega), if_pos (show cb ≤ ch by omega), a2, if_neg hl]
      refine ⟨_, rfl, ?_⟩
      rw [up_s]
      refine ⟨?_, ?_, ?_, ?_, ?_, ?_⟩ <;> simp (disch := omega) only [ud_s, ud_n, a0, a1, a2, a3, a4, a5, Nat.add_zero]
  · have e : t = 1 := by omega
    subst e
    by_cases hl : ch + 1 < cb
    · simp (disch := omega) only [rd_n, ck_n, wr_n, cl_n, st_e, b2_e, bd_e, ltp, lep, eqp, m1p, m1l, m1e, m1a, nI_add, pk_sub, pk_mul, dvp, nzp, up_s, up_x, up_01, if_true, if_false, Nat.not_lt_zero, Nat.zero_add, z_0, z_1, z_2, z_3, z_4, z_5, z_10, z_11, z_15, z_20, z_30, z_63, z_64, z_99, z_100, z_127, z_128, z_200, z_256, z_300, z_400, z_500, z_600, z_601, z_602, z_603, z_604, z_605, z_606, z_862, z_990, z_1000, z_1090, z_1390, z_1393, z_1394, z_1395, z_1396, z_1397, z_1398, z_1399, z_1400, z_1401, z_1402, z_1403, z_1404, z_1405, z_1705, z_1805, z_7220, a0, if_neg (show ¬ step = 0 by omega), if_neg (show ¬ 1 = 0 by decide), ud_n, ud_s, a1, a3, a4, a5, if_pos (show per ≤ ca + 1 by omega), if_neg (show ¬ cb ≤ ch + 1 by omega), a2, if_pos hl]
      refine ⟨_, rfl, ?_⟩
      rw [up_s]
      refine ⟨?_, ?_, ?_, ?_, ?_, ?_⟩ <;> simp (disch := omega) only [ud_s, ud_n, a0, a1, a2, a3, a4, a5, nI_add]
    · simp (disch := omega) only [rd_n, ck_n, wr_n, cl_n, st_e, b2_e, bd_e, ltp, lep, eqp, m1p, m1l, m1e, m1a, nI_add, pk_sub, pk_mul, dvp, nzp, up_s, up_x, up_01, if_true, if_false, Nat.not_lt_zero, Nat.zero_add, z_0, z_1, z_2, z_3, z_4, z_5, z_10, z_11, z_15, z_20, z_30, z_63, z_64, z_99, z_100, z_127, z_128, z_200, z_256, z_300, z_400, z_500, z_600, z_601, z_602, z_603, z_604, z_605, z_606, z_862, z_990, z_1000, z_1090, z_1390, z_1393, z_1394, z_1395, z_1396, z_1397, z_1398, z_1399, z_1400, z_1401, z_1402, z_1403, z_1404, z_1405, z_1705, z_1805, z_7220, a0, if_neg (show ¬ step = 0 by omega), if_neg (show ¬ 1 = 0 by decide), ud_n, ud_s, a1, a3, a4, a5, if_pos (show per ≤ ca + 1 by omega), if_pos (show cb ≤ ch + 1 by omega), a2, if_neg hl]
      refine ⟨_, rfl, ?_⟩
      rw [up_s]
      refine ⟨?_, ?_, ?_, ?_, ?_, ?_⟩ <;> simp (disch := omega) only [ud_s, ud_n, a0, a1, a2, a3, a4, a5, nI_add]
theorem dir_nz {dir : Int32} {step : Nat} (hd : dir = 1 ∨ dir = -1) (h1 : 0 < step) (h2 : step ≤ 20) : ¬ dir * nI step = 0 := by
  have H1 : ∀ n, n < 21 → 0 < n → ¬ (1 : Int32) * nI n = 0 := by decide
  have H2 : ∀ n, n < 21 → 0 < n → ¬ (-1 : Int32) * nI n = 0 := by decide
  rcases hd with rfl | rfl
  · exact H1 step (by omega) h1
  · exact H2 step (by omega) h1
theorem dir_neg {dir : Int32} {b : Prop} [Decidable b] (hd : dir = 1 ∨ dir = -1) : (if b then -dir else dir) = 1 ∨ (if b then -dir else dir) = -1 := by
  by_cases h : b
  · rw [if_pos h]
    rcases hd with rfl | rfl
    · exact Or.inr rfl
    · exact Or.inl (by decide)
  · rw [if_neg h]
    exact hd
/-! the answer of an access; row: the row in which the key was, or -1 -/
theorem vis_ans {Z : Nat → Nat} {L : Nat → List Nat} {S : Ob} {g : Sg} {k t : Nat} {row : Int32} (hL : okL 3 L) (hR : RW 3 L Z (S 3)) (hQ : RQ L Z (g 1)) (hk : k < 100) (ht : (t = 0 ∧ row = -1) ∨ (t = 1 ∧ ∃ r, r < 3 ∧ row = nI r)) : ∃ v, f8_visit_j132 (nI k) row (nI t) S = some (v, S) ∧ f11_accessed_j295 (nI k) row g = some (v, g) ∧ (v < nI 2 ↔ t = 0) := by
  unfold f8_visit_j132 f11_accessed_j295
  rcases ht with ⟨rfl, rfl⟩ | ⟨rfl, r, hr, rfl⟩
  · by_cases hin : ∃ q, q < 3 ∧ k ∈ L q
    · obtain ⟨q, hq, hkq⟩ := hin
      have e1 := (hR.2.2.2.1 k hk).1 q hq hkq
      have e2 := pm_part hq hL hQ hk hkq
      refine ⟨nI 1, ?_, ?_, by decide⟩
      · simp (disch := omega) only [rd_n, ck_n, wr_n, cl_n, st_e, b2_e, bd_e, ltp, lep, eqp, m1p, m1l, m1e, m1a, nI_add, pk_sub, pk_mul, dvp, nzp, up_s, up_x, up_01, if_true, if_false, Nat.not_lt_zero, Nat.zero_add, z_0, z_1, z_2, z_3, z_4, z_5, z_10, z_11, z_15, z_20, z_30, z_63, z_64, z_99, z_100, z_127, z_128, z_200, z_256, z_300, z_400, z_500, z_600, z_601, z_602, z_603, z_604, z_605, z_606, z_862, z_990, z_1000, z_1090, z_1390, z_1393, z_1394, z_1395, z_1396, z_1397, z_1398, z_1399, z_1400, z_1401, z_1402, z_1403, z_1404, z_1405, z_1705, z_1805, z_7220, e1]
      · rw [if_pos (by decide)]
        simp (disch := omega) only [rd_n, ck_n, wr_n, cl_n, st_e, b2_e, bd_e, ltp, lep, eqp, m1p, m1l, m1e, m1a, nI_add, pk_sub, pk_mul, dvp, nzp, up_s, up_x, up_01, if_true, if_false, Nat.not_lt_zero, Nat.zero_add, z_0, z_1, z_2, z_3, z_4, z_5, z_10, z_11, z_15, z_20, z_30, z_63, z_64, z_99, z_100, z_127, z_128, z_200, z_256, z_300, z_400, z_500, z_600, z_601, z_602, z_603, z_604, z_605, z_606, z_862, z_990, z_1000, z_1090, z_1390, z_1393, z_1394, z_1395, z_1396, z_1397, z_1398, z_1399, z_1400, z_1401, z_1402, z_1403, z_1404, z_1405, z_1705, z_1805, z_7220, e2]
    · have hno : ∀ q, q < 3 → k ∉ L q := fun q hq h => hin ⟨q, hq, h⟩
      have e1 := (hR.2.2.2.1 k hk).2 hno
      have e2 := pm_partN hL hQ hk hno
      refine ⟨nI 0, ?_, ?_, by decide⟩
      · simp (disch := omega) only [rd_n, ck_n, wr_n, cl_n, st_e, b2_e, bd_e, ltp, lep, eqp, m1p, m1l, m1e, m1a, nI_add, pk_sub, pk_mul, dvp, nzp, up_s, up_x, up_01, if_true, if_false, Nat.not_lt_zero, Nat.zero_add, z_0, z_1, z_2, z_3, z_4, z_5, z_10, z_11, z_15, z_20, z_30, z_63, z_64, z_99, z_100, z_127, z_128, z_200, z_256, z_300, z_400, z_500, z_600, z_601, z_602, z_603, z_604, z_605, z_606, z_862, z_990, z_1000, z_1090, z_1390, z_1393, z_1394, z_1395, z_1396, z_1397, z_1398, z_1399, z_1400, z_1401, z_1402, z_1403, z_1404, z_1405, z_1705, z_1805, z_7220, e1]
      · rw [if_pos (by decide), e2, bd_e, if_pos (by decide)]
        rfl
  · refine ⟨nI (2 + r), ?_, ?_, ?_⟩
    · simp (disch := omega) only [rd_n, ck_n, wr_n, cl_n, st_e, b2_e, bd_e, ltp, lep, eqp, m1p, m1l, m1e, m1a, nI_add, pk_sub, pk_mul, dvp, nzp, up_s, up_x, up_01, if_true, if_false, Nat.not_lt_zero, Nat.zero_add, z_0, z_1, z_2, z_3, z_4, z_5, z_10, z_11, z_15, z_20, z_30, z_63, z_64, z_99, z_100, z_127, z_128, z_200, z_256, z_300, z_400, z_500, z_600, z_601, z_602, z_603, z_604, z_605, z_606, z_862, z_990, z_1000, z_1090, z_1390, z_1393, z_1394, z_1395, z_1396, z_1397, z_1398, z_1399, z_1400, z_1401, z_1402, z_1403, z_1404, z_1405, z_1705, z_1805, z_7220, if_neg (show ¬ 1 = 0 by decide)]
    · simp (disch := omega) only [rd_n, ck_n, wr_n, cl_n, st_e, b2_e, bd_e, ltp, lep, eqp, m1p, m1l, m1e, m1a, nI_add, pk_sub, pk_mul, dvp, nzp, up_s, up_x, up_01, if_true, if_false, Nat.not_lt_zero, Nat.zero_add, z_0, z_1, z_2, z_3, z_4, z_5, z_10, z_11, z_15, z_20, z_30, z_63, z_64, z_99, z_100, z_127, z_128, z_200, z_256, z_300, z_400, z_500, z_600, z_601, z_602, z_603, z_604, z_605, z_606, z_862, z_990, z_1000, z_1090, z_1390, z_1393, z_1394, z_1395, z_1396, z_1397, z_1398, z_1399, z_1400, z_1401, z_1402, z_1403, z_1404, z_1405, z_1705, z_1805, z_7220]
    · rw [ltp (by omega) (by decide)]
      omega
/-! behind the parts' changes: the climb -/
theorem vis_end {D C : Nat} {A : AK} {w p q : List Nat} {Z : Nat → Nat} {mode W step per ch ca cb : Nat} {o acc hits dir : Int32} {T : List Nat} {S : Ob} {g : Sg} {x : Nat → Int32} {k t : Nat} {row : Int32} (hC : C ≤ 200) (hC4 : 4 ≤ C) (h0 : g 0 0 = nI D) (h1 : g 0 1 = nI C) (hk : k < 100) (ht : (t = 0 ∧ row = -1) ∨ (t = 1 ∧ ∃ r, r < 3 ∧ row = nI r)) (hok : okS D C (A, (w, p, q), Z, (mode, W, step, per, ch, ca, cb), (o, acc, hits, dir), T)) (hS : RS D C (A, (w, p, q), Z, (mode, W, step, per, ch, ca, cb), (o, acc, hits + nI t, dir), T) S) (hX : RX D C (A, (w, p, q), Z, (mode, W, step, per, ch, ca, cb), (o, acc, hits, dir), T) x) :
    ∃ v S2 y s2, f8_visit_j93 (nI k) row (nI t) S = some (v, S2) ∧ f11_accessed_j209 (nI k) row (va_up g 1 x) = some (v, va_up g 1 y) ∧ okS D C s2 ∧ RS D C s2 S2 ∧ RX D C s2 y ∧ y 1398 = hits + nI t ∧ (v < nI 2 ↔ t = 0) := by
  obtain ⟨k1, k2, k3, k4, ⟨k5, k6⟩, k7, k8, ⟨k9, k10, k11, k12, k13⟩, k14, k15, k16, k17, k18⟩ := hok
  obtain ⟨s1, s2, s3, s4, s5, s6, s7⟩ := hS
  obtain ⟨x1, x2, x3, ⟨x4, x5, x6⟩, ⟨x7, x8⟩, ⟨x9, x10, x11, x12⟩, ⟨x13, x14, x15⟩, x16, x17⟩ := hX
  have ht1 : t ≤ 1 := by
    rcases ht with ⟨h, -⟩ | ⟨h, -⟩ <;> omega
  -- the reference's j209, in one form for hit and miss
  have hform : f11_accessed_j209 (nI k) row (va_up g 1 x) = (if step ≤ 0 then f11_accessed_j295 (nI k) row (va_up g 1 (upd x 1398 (hits + nI t))) else if ca + 1 = per then (f11_climb (va_up g 1 (upd (upd (upd x 1398 (hits + nI t)) 1402 (nI (ca + 1))) 1401 (nI (ch + t))))).bind (fun g88 => f11_accessed_j295 (nI k) row g88) else f11_accessed_j295 (nI k) row (va_up g 1 (upd (upd (upd x 1398 (hits + nI t)) 1402 (nI (ca + 1))) 1401 (nI (ch + t))))) := by
    unfold f11_accessed_j209
    rcases ht with ⟨rfl, rfl⟩ | ⟨rfl, r, hr, rfl⟩
    · have hneg : ((-1 : Int32) < 0) = True := eq_true (by decide)
      simp (disch := omega) only [rd_n, wr_n, cl_n, z_1398, z_604, z_1402, z_1401, z_605, z_1, m1l, up_s, up_x, ud_n, ud_s, if_true, x5, x6, x10, x13, x14, lep, eqp, nI_add, z_0]
    · simp (disch := omega) only [rd_n, wr_n, cl_n, z_1398, z_604, z_1402, z_1401, z_605, z_1, ltp, Nat.not_lt_zero, if_false, up_s, up_x, ud_n, ud_s, x5, x6, x10, x13, x14, lep, eqp, nI_add, z_0]
  rw [hform]
  unfold f8_visit_j93
  by_cases hst : step ≤ 0
  · have hst0 : step = 0 := by omega
    subst hst0
    rw [if_pos hst, pb_0 s5.1]
    have hS5 : va_up S 5 (S 5) = S := up_id S 5
    obtain ⟨v, v1, v2, v3⟩ := vis_ans (g := va_up g 1 (upd x 1398 (hits + nI t))) k3 s2 (x3.u k3 (by omega)) hk ht
    refine ⟨v, S, _, (A, (w, p, q), Z, (mode, W, 0, per, ch, ca, cb), (o, acc, hits + nI t, dir), T), ?_, v2, ⟨k1, k2, k3, k4, ⟨k5, k6⟩, k7, k8, ⟨k9, k10, k11, k12, k13⟩, k14, k15, k16, k17, k18⟩, ⟨s1, s2, s3, s4, s5, s6, s7⟩, ⟨x1.u (by omega), fun j hj => by rw [ud_n (by omega)]; exact x2 j hj, x3.u k3 (by omega), ⟨by rw [ud_n (by omega)]; exact x4, by rw [ud_n (by omega)]; exact x5, by rw [ud_n (by omega)]; exact x6⟩, ⟨by rw [ud_n (by omega)]; exact x7, by rw [ud_n (by omega)]; exact x8⟩, ⟨by rw [ud_n (by omega)]; exact x9, by rw [ud_s], by rw [ud_n (by omega)]; exact x11, by rw [ud_n (by omega)]; exact x12⟩, ⟨by rw [ud_n (by omega)]; exact x13, by rw [ud_n (by omega)]; exact x14, by rw [ud_n (by omega)]; exact x15⟩, by rw [ud_n (by omega)]; exact x16, fun i hi => by rw [ud_n (by omega)]; exact x17 i hi⟩, by rw [ud_s], v3⟩
    rw [b2_e, st_e, hS5, if_pos (show nI 0 = 0 from rfl)]
    exact v1
  · rw [if_neg hst]
    obtain ⟨x0, hx0⟩ : ∃ z, z = upd (upd (upd x 1398 (hits + nI t)) 1402 (nI (ca + 1))) 1401 (nI (ch + t)) := ⟨_, rfl⟩
    rw [← hx0]
    have xo : ∀ j, j ≠ 1398 → j ≠ 1402 → j ≠ 1401 → x0 j = x j := fun j h1 h2 h3 => by rw [hx0, ud_n h3, ud_n h2, ud_n h1]
    have xQ : RQ (L3 w p q) Z x0 := by
      rw [hx0]
      exact ((x3.u k3 (by omega)).u k3 (by omega)).u k3 (by omega)
    have xN : RN A x0 := by
      rw [hx0]
      exact ((x1.u (by omega)).u (by omega)).u (by omega)
    have x1401 : x0 1401 = nI (ch + t) := by rw [hx0, ud_s]
    have x1402 : x0 1402 = nI (ca + 1) := by rw [hx0, ud_n (by decide), ud_s]
    have x1398 : x0 1398 = hits + nI t := by rw [hx0, ud_n (by decide), ud_n (by decide), ud_s]
    by_cases hper : ca + 1 = per
    · rw [if_pos hper]
      obtain ⟨g5, b1, b2⟩ := pb_2 s5 (by omega) (by omega) (by omega) hper (by omega) (by omega) ht1
      obtain ⟨W2, w1, w2, w3, w4⟩ := clamp (lo := 1) (hi := C - 1) (by omega) (by omega) (nI W + (if ch + t < cb then -dir else dir) * nI step)
      have hS5 : ∀ i, i ≠ 5 → va_up S 5 g5 i = S i := fun i hi => up_n hi
      obtain ⟨c2, g2, d1, d2, d3⟩ := pc_climb (S := va_up S 5 g5) (fun S33 => f8_visit_j132 (nI k) row (nI t) S33) k1 (by rw [hS5 2 (by decide)]; exact s1) k4 hC hC4 w2 k7 s3 k3 s2 w3
      obtain ⟨y, m1, m2, m3, m4, m5, m6, m7, m8, m9, m10⟩ := pm_climb (g := g) (step := step) (cb := cb) (W := W) (dir := dir) k1 h0 h1 k4 hC hC4 w2 k7 k3 xQ xN (by rw [xo _ (by decide) (by decide) (by decide)]; exact x4) (by rw [xo _ (by decide) (by decide) (by decide)]; exact x5) (by rw [xo _ (by decide) (by decide) (by decide)]; exact x7) x1401 (by rw [xo _ (by decide) (by decide) (by decide)]; exact x15) (by rw [xo _ (by decide) (by decide) (by decide)]; exact x12) (by omega) (by omega) w4
      have okc := clP_ok (Z := Z) (e := est D A) (mode := mode) (C := C) (W := W2) k3
      have sumc := clP_sum (Z := Z) (e := est D A) (mode := mode) (C := C) (W := W2) (w := w) (p := p) (q := q)
      have hmk : va_up S 5 g5 = mkS (va_up S 5 g5) (S 1 0) (S 3) := by
        have e := mk_id (S := va_up S 5 g5)
        rw [hS5 1 (by decide), hS5 3 (by decide)] at e
        exact e.symm
      obtain ⟨v, v1, v2, v3⟩ := vis_ans (S := mkS (va_up S 5 g5) c2 g2) (g := va_up g 1 y) okc d3 m2 hk ht
      have hnz := dir_nz (dir_neg (b := ch + t < cb) k14) (show 0 < step by omega) k8
      refine ⟨v, mkS (va_up S 5 g5) c2 g2, y, (A, ((clP Z (est D A) mode C W2 w p q).1, (clP Z (est D A) mode C W2 w p q).2.1, (clP Z (est D A) mode C W2 w p q).2.2.1), Z, (mode, W2, step, per, 0, 0, ch + t), (o + nI (clP Z (est D A) mode C W2 w p q).2.2.2, acc, hits + nI t, (if ch + t < cb then -dir else dir)), T), ?_, ?_, ⟨k1, k2, okc, k4, ⟨w1, w2⟩, k7, k8, ⟨k9, k10, by omega, by omega, by omega⟩, dir_neg k14, k15, sumc⟩, ⟨?_, ?_, ?_, ?_, ?_, ?_, ?_⟩, ⟨?_, ?_, m2, ⟨?_, ?_, ?_⟩, ⟨m5, m6⟩, ⟨?_, ?_, ?_, m7⟩, ⟨m8, m9, m10⟩, ?_, fun i hi => ?_⟩, ?_, v3⟩
      · rw [b1, b2_e, st_e, if_neg hnz, hS5 1 (by decide), s3.2.2.1]
        have hd := d1.trans v1
        rw [← hmk] at hd
        exact hd
      · rw [m1, bd_e]
        exact v2
      · rw [mk_2, hS5 2 (by decide)]; exact s1
      · rw [mk_3]; exact d3
      · rw [mk_1]; exact d2
      · show RG T (va_up (va_up (va_up S 5 g5) 1 _) 3 _ 4)
        rw [up_n (by decide), up_n (by decide), up_n (by decide)]; exact s4
      · show RB _ _ _ _ _ _ (va_up (va_up (va_up S 5 g5) 1 _) 3 _ 5 0)
        rw [up_n (by decide), up_n (by decide), up_s]; exact b2
      · show va_up (va_up (va_up S 5 g5) 1 _) 3 _ 0 0 3 = _
        rw [up_n (by decide), up_n (by decide), up_n (by decide)]; exact s6
      · show va_up (va_up (va_up S 5 g5) 1 _) 3 _ 0 0 4 = _
        rw [up_n (by decide), up_n (by decide), up_n (by decide)]; exact s7
      · exact xN.fr (fun j hj => m3 j (by omega))
      · exact fun j hj => by rw [m3 _ (by omega), xo _ (by omega) (by omega) (by omega)]; exact x2 j hj
      · rw [m3 _ (by omega), xo _ (by omega) (by omega) (by omega)]; exact x4
      · rw [m3 _ (by omega), xo _ (by omega) (by omega) (by omega)]; exact x5
      · rw [m3 _ (by omega), xo _ (by omega) (by omega) (by omega)]; exact x6
      · rw [m3 _ (by omega), xo _ (by omega) (by omega) (by omega)]; exact x9
      · rw [m3 _ (by omega)]; exact x1398
      · rw [m4, xo _ (by omega) (by omega) (by omega), x11]
      · rw [m3 _ (by omega), xo _ (by omega) (by omega) (by omega)]; exact x16
      · rw [m3 _ (by omega), xo _ (by omega) (by omega) (by omega)]; exact x17 i hi
      · rw [m3 _ (by omega)]; exact x1398
    · rw [if_neg hper]
      obtain ⟨g5, b1, b2⟩ := pb_1 s5 (by omega) (by omega) (by omega) (by omega) (by omega) ht1
      have hS5 : ∀ i, i ≠ 5 → va_up S 5 g5 i = S i := fun i hi => up_n hi
      obtain ⟨v, v1, v2, v3⟩ := vis_ans (S := va_up S 5 g5) (g := va_up g 1 x0) k3 (by rw [hS5 3 (by decide)]; exact s2) xQ hk ht
      refine ⟨v, va_up S 5 g5, x0, (A, (w, p, q), Z, (mode, W, step, per, ch + t, ca + 1, cb), (o, acc, hits + nI t, dir), T), ?_, v2, ⟨k1, k2, k3, k4, ⟨k5, k6⟩, k7, k8, ⟨k9, k10, by omega, by omega, k13⟩, k14, k15, k16, k17, k18⟩, ⟨?_, ?_, ?_, ?_, ?_, ?_, ?_⟩, ⟨xN, ?_, xQ, ⟨?_, ?_, ?_⟩, ⟨?_, ?_⟩, ⟨?_, x1398, ?_, ?_⟩, ⟨x1401, x1402, ?_⟩, ?_, fun i hi => ?_⟩, x1398, v3⟩
      · rw [b1, b2_e, st_e, if_pos (show nI 0 = 0 from rfl)]
        exact v1
      · rw [hS5 2 (by decide)]; exact s1
      · rw [hS5 3 (by decide)]; exact s2
      · rw [hS5 1 (by decide)]; exact s3
      · rw [hS5 4 (by decide)]; exact s4
      · rw [up_s]; exact b2
      · rw [hS5 0 (by decide)]; exact s6
      · rw [hS5 0 (by decide)]; exact s7
      · exact fun j hj => by rw [xo _ (by omega) (by omega) (by omega)]; exact x2 j hj
      · rw [xo _ (by omega) (by omega) (by omega)]; exact x4
      · rw [xo _ (by omega) (by omega) (by omega)]; exact x5
      · rw [xo _ (by omega) (by omega) (by omega)]; exact x6
      · rw [xo _ (by omega) (by omega) (by omega)]; exact x7
      · rw [xo _ (by omega) (by omega) (by omega)]; exact x8
      · rw [xo _ (by omega) (by omega) (by omega)]; exact x9
      · rw [xo _ (by omega) (by omega) (by omega)]; exact x11
      · rw [xo _ (by omega) (by omega) (by omega)]; exact x12
      · rw [xo _ (by omega) (by omega) (by omega)]; exact x15
      · rw [xo _ (by omega) (by omega) (by omega)]; exact x16
      · rw [xo _ (by omega) (by omega) (by omega)]; exact x17 i hi
