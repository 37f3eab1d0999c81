/-! rule -/
theorem rj_se {D : Nat} {A : AK} {g : Sg} {i c : Nat} (hi : i < 3) (h : RK D A g) : RJ D (seK A i c) (va_up g 0 (upd (g 0) (6 + i) (nI c))) := by
  obtain ⟨a1, a2, a3, a4, a5, a6, a7, a8, a9, a10, a11⟩ := h
  have hs : ∀ j, j < 4 → g 0 (6 + j) = nI (kS A j) → va_up g 0 (upd (g 0) (6 + i) (nI c)) 0 (6 + j) = nI (kS (seK A i c) j) := by
    intro j hj e
    show _ = nI (if j = i then c else kS A j)
    rw [up_s]
    by_cases e2 : j = i
    · rw [e2, ud_s, if_pos rfl]
    · rw [ud_n (by omega), if_neg e2, e]
  refine ⟨?_, hs 0 (by decide) a2, hs 1 (by decide) a3, hs 2 (by decide) a4, hs 3 (by decide) a5, ?_, fun r k hr hk => ?_, fun w k hw hk => ?_, fun r c hr hc => ?_, fun b hb => ?_⟩
  · rw [up_s, ud_n (by omega)]; exact a1
  · rw [up_s, ud_n (by omega)]; exact a6
  · rw [up_n (by omega)]; exact a7 r k hr hk
  · rw [up_n (by omega)]; exact a8 w k hw hk
  · rw [up_n (by omega)]; exact a9 _ _ hr hc
  · rw [up_n (by omega)]; exact a10 b hb
theorem rn_se {A : AK} {x : Nat → Int32} {i c : Nat} (hi : i < 3) (h : RN A x) : RN (seK A i c) (upd x (600 + i) (nI c)) := by
  obtain ⟨b1, b2, b3, b4, b5, b6, b7, b8, b9⟩ := h
  have hs : ∀ j, j < 3 → x (600 + j) = nI (kS A j) → upd x (600 + i) (nI c) (600 + j) = nI (kS (seK A i c) j) := by
    intro j hj e
    show _ = nI (if j = i then c else kS A j)
    by_cases e2 : j = i
    · rw [e2, ud_s, if_pos rfl]
    · rw [ud_n (by omega), if_neg e2, e]
  refine ⟨fun a b ha hb => ?_, fun a b ha hb => ?_, hs 0 (by decide) b3, hs 1 (by decide) b4, hs 2 (by decide) b5, fun a b ha hb => ?_, fun b hb => ?_, ?_, ?_⟩
  · rw [ud_n (by omega)]; exact b1 a b ha hb
  · rw [ud_n (by omega)]; exact b2 a b ha hb
  · rw [ud_n (by omega)]; exact b6 a b ha hb
  · rw [ud_n (by omega)]; exact b7 b hb
  · rw [ud_n (by omega)]
    show x 1395 = nI (if 3 = i then c else kS A 3)
    rw [if_neg (by omega)]; exact b8
  · rw [ud_n (by omega)]; exact b9
theorem ru_out {a1 a2 : Int32} {g : Sg} (h0 : ¬ a1 = 0) (h1 : ¬ a1 = 1) (h2 : ¬ a1 = 2) (h3 : ¬ a1 = 3) (h4 : ¬ a1 = 4) (h5 : ¬ a1 = 5) : f11_rule a1 a2 g = some (-2, g) := by
  unfold f11_rule f11_rule_j98
  rw [if_neg h0, if_neg h1, if_neg h2, if_neg h3, if_neg h4, if_neg h5, if_pos rfl]
theorem z6 : (6 : Int32) = nI 6 := rfl
theorem ru_cl {M : Me} {a2 : Int32} {j lo hi : Nat} (hj : j < 6) (h1 : lrF j = nI lo) (h2 : mrF j = nI hi) : f10_rule (nI j) a2 M = if a2 < nI lo then some (-2, M) else if a2 ≤ nI hi then (b2 (f8_tellRule (nI j) a2 (M 0)) (fun r13 S11 => (st (va_up M 0 S11) (fun M12 => (some (r13, M12)))))) else some (-2, M) := by
  unfold f10_rule
  rw [if_neg (show ¬ nI j < 0 by rw [z_0, ltp (by omega) (by omega)]; omega), if_neg (show ¬ (6 : Int32) ≤ nI j by rw [z6, lep (by omega) (by omega)]; omega), if_pos (show nI j < 6 by rw [z6, ltp (by omega) (by omega)]; omega), rd_n hj (by omega), rd_n hj (by omega), h1, h2]
theorem ru_md {g : Sg} {a2 : Int32} {j lo hi : Nat} (hj : (j = 0 ∧ lo = 0 ∧ hi = 1) ∨ (j = 1 ∧ lo = 0 ∧ hi = 1) ∨ (j = 2 ∧ lo = 10 ∧ hi = 1000) ∨ (j = 3 ∧ lo = 0 ∧ hi = 2) ∨ (j = 4 ∧ lo = 0 ∧ hi = 20) ∨ (j = 5 ∧ lo = 5 ∧ hi = 500)) : f11_rule (nI j) a2 g = (f11_in a2 (nI lo) (nI hi)).bind (fun r => f11_rule_j98 (nI j) a2 r g) := by
  unfold f11_rule
  rcases hj with ⟨rfl, rfl, rfl⟩ | ⟨rfl, rfl, rfl⟩ | ⟨rfl, rfl, rfl⟩ | ⟨rfl, rfl, rfl⟩ | ⟨rfl, rfl, rfl⟩ | ⟨rfl, rfl, rfl⟩
  · exact if_pos rfl
  · rw [if_neg (by decide)]
    exact if_pos rfl
  · rw [if_neg (by decide), if_neg (by decide)]
    exact if_pos rfl
  · rw [if_neg (by decide), if_neg (by decide), if_neg (by decide)]
    exact if_pos rfl
  · rw [if_neg (by decide), if_neg (by decide), if_neg (by decide), if_neg (by decide)]
    exact if_pos rfl
  · rw [if_neg (by decide), if_neg (by decide), if_neg (by decide), if_neg (by decide), if_neg (by decide)]
    exact if_pos rfl
/-- it is enough to look at values within the bounds -/
theorem ru_j {M : Me} {a2 : Int32} {j lo hi : Nat} (hj : (j = 0 ∧ lo = 0 ∧ hi = 1) ∨ (j = 1 ∧ lo = 0 ∧ hi = 1) ∨ (j = 2 ∧ lo = 10 ∧ hi = 1000) ∨ (j = 3 ∧ lo = 0 ∧ hi = 2) ∨ (j = 4 ∧ lo = 0 ∧ hi = 20) ∨ (j = 5 ∧ lo = 5 ∧ hi = 500)) (h1 : lrF j = nI lo) (h2 : mrF j = nI hi) (h : Rel M)
    (hin : ∀ c, lo ≤ c → c ≤ hi → ∃ (r : Int32) (S2 : Ob) (y : Nat → Int32), f8_tellRule (nI j) (nI c) (M 0) = some (r, S2) ∧ f11_rule_j98 (nI j) (nI c) (nI 1) (M 7 0) = some (r, va_up (M 7 0) 1 y) ∧ Rel (uI (va_up M 0 S2) 7 0 (va_up (M 7 0) 1 y))) :
    ∃ (r : Int32) (M2 : Me) (g2 : Sg), f10_rule (nI j) a2 M = some (r, M2) ∧ M2 6 0 1 = M 6 0 1 ∧ f11_rule (nI j) a2 (M2 7 0) = some (r, g2) ∧ Rel (uI M2 7 0 g2) := by
  have hlo : lo ≤ hi := by omega
  rw [ru_cl (by omega) h1 h2]
  rcases rng_c a2 (lo := lo) (hi := hi) (by omega) hlo with ⟨q1, q2⟩ | ⟨q1, q2, q3⟩ | ⟨c, q1, q2, rfl, q3⟩
  · exact ⟨-2, M, M 7 0, if_pos q1, rfl, by rw [ru_md hj, q2]; rfl, rel_no h⟩
  · exact ⟨-2, M, M 7 0, by rw [if_neg q1, if_neg q2], rfl, by rw [ru_md hj, q3]; rfl, rel_no h⟩
  · obtain ⟨r, S2, y, b1, b2, b3⟩ := hin c q1 q2
    refine ⟨r, va_up M 0 S2, va_up (M 7 0) 1 y, ?_, by rw [up_n (by decide)], ?_, b3⟩
    · rw [if_neg (show ¬ nI c < nI lo by rw [ltp (by omega) (by omega)]; omega), if_pos (show nI c ≤ nI hi by rw [lep (by omega) (by omega)]; omega), b1]
      rfl
    · rw [ru_md hj, q3, m_0]
      exact b2
theorem okK_se {D : Nat} {A : AK} {i c : Nat} (h : okK D A) (hi : (i < 2 ∧ c ≤ 1) ∨ (i = 2 ∧ 10 ≤ c ∧ c ≤ 1000)) : okK D (seK A i c) := by
  obtain ⟨b1, b2, b3, b4, b5, b6, b7, b8, b9, b10, b11, b12⟩ := h
  have hs : ∀ j, kS (seK A i c) j = if j = i then c else kS A j := fun j => rfl
  refine ⟨b1, b2, b3, b4, b5, b6, b7, ?_, ?_, ?_, ?_, ?_⟩
  · rw [hs]; split <;> omega
  · rw [hs]; split <;> omega
  · rw [hs]; split <;> omega
  · rw [hs]; split <;> omega
  · rw [hs, if_neg (by omega)]; exact b12
theorem sim_rule : Sim_rule Rel := by
  intro M a1 a2 h
  have hrel := h
  obtain ⟨D, C, s, sv, K, h⟩ := h
  obtain ⟨A, ⟨w, p, q⟩, Z, ⟨mode, W, step, per, ch, ca, cb⟩, ⟨o, acc, hits, dir⟩, T⟩ := s
  obtain ⟨k1, k2, k3, k4, k5, k7, k8, k9, k14, ⟨k15, k15b⟩, k16⟩ := h.2.1
  obtain ⟨x1, x2, x3, xV⟩ := h.2.2.2.1
  have hS := h.2.2.1
  obtain ⟨s1, s2, s3, s4, s5, s6, s7⟩ := hS
  rcases pk_ix (n := 6) a1 (by decide) with q1 | q1 | ⟨j, hj, rfl⟩
  · have hne : ∀ n : Int32, ¬ n < 0 → ¬ a1 = n := fun n hn e => hn (e ▸ q1)
    refine ⟨-2, M, M 7 0, if_pos q1, rfl, ru_out (hne _ (by decide)) (hne _ (by decide)) (hne _ (by decide)) (hne _ (by decide)) (hne _ (by decide)) (hne _ (by decide)), rel_no hrel⟩
  · have hne : ∀ n : Int32, ¬ nI 6 ≤ n → ¬ a1 = n := fun n hn e => hn (e ▸ q1)
    refine ⟨-2, M, M 7 0, ?_, rfl, ru_out (hne _ (by decide)) (hne _ (by decide)) (hne _ (by decide)) (hne _ (by decide)) (hne _ (by decide)) (hne _ (by decide)), rel_no hrel⟩
    unfold f10_rule
    by_cases h0 : a1 < 0
    · exact if_pos h0
    · rw [if_neg h0]; exact if_pos q1
  have hj6 : j = 0 ∨ j = 1 ∨ j = 2 ∨ j = 3 ∨ j = 4 ∨ j = 5 := by omega
  rcases hj6 with rfl | rfl | rfl | rfl | rfl | rfl
  · refine ru_j (lo := 0) (hi := 1) (by omega) rfl rfl hrel (fun c c1 c2 => ?_)
    have b := k1.2.2.2.2.2.2.2.1
    obtain ⟨g2, f1, f2⟩ := pk_fg (v := nI (kS A 0)) (a := nI c) (rj_se (i := 0) (c := c) (by decide) s1) (up_n (by decide)) s1 (fun e => seK_id (nI_inj (by omega) (by omega) e))
    refine ⟨nI (kS A 0), va_up (M 0) 2 g2, ov (fun _ => nI 0) 1705 100 (upd (M 7 0 1) 600 (nI c)), ?_, ?_, D, C, _, sv, K, rel_st h (s2 := (seK A 0 c, (w, p, q), Z, (mode, W, step, per, ch, ca, cb), (o, acc, hits, dir), T)) ⟨okK_se k1 (by omega), k2, k3, k4, k5, k7, k8, k9, k14, ⟨k15, k15b⟩, k16⟩ (rs_k h.2.2.1 f2) ⟨?_, rt_0, x3.fr k3 (fun j h1 h2 => by rw [ov_o (by omega), ud_n (by omega)]), xV.fr k15 (fun j hj => by rw [ov_o (by omega), ud_n (by omega)]) (by rw [ov_o (by omega), ud_n (by omega)]; exact xV.2.2.1.2.2.1)⟩⟩
    · unfold f8_tellRule f7_tellDoorInUse
      rw [if_pos (show nI 0 = 0 from rfl), st_e, s1.2.1, f1]
      rfl
    · unfold f11_rule_j98 f11_rule_j137
      simp (disch := omega) only [rd_n, ck_n, wr_n, cl_n, st_e, b2_e, bd_e, ltp, lep, eqp, m1p, m1l, m1e, m1a, nI_add, pk_sub, pk_mul, dvp, nzp, up_s, up_x, up_01, if_true, if_false, Nat.not_lt_zero, Nat.zero_add, z_0, z_1, z_2, z_3, z_4, z_5, z_10, z_11, z_15, z_20, z_30, z_63, z_64, z_99, z_100, z_127, z_128, z_200, z_256, z_300, z_400, z_500, z_600, z_601, z_602, z_603, z_604, z_605, z_606, z_862, z_990, z_1000, z_1090, z_1390, z_1393, z_1394, z_1395, z_1396, z_1397, z_1398, z_1399, z_1400, z_1401, z_1402, z_1403, z_1404, z_1405, z_1705, z_1805, z_7220, x1.2.2.1, pm_forget]
      rfl
    · exact (rn_se (i := 0) (c := c) (by decide) x1).fr (fun j hj => ov_o (by omega))
  · refine ru_j (lo := 0) (hi := 1) (by omega) rfl rfl hrel (fun c c1 c2 => ?_)
    have b := k1.2.2.2.2.2.2.2.2.1
    obtain ⟨g2, f1, f2⟩ := pk_fg (v := nI (kS A 1)) (a := nI c) (rj_se (i := 1) (c := c) (by decide) s1) (up_n (by decide)) s1 (fun e => seK_id (nI_inj (by omega) (by omega) e))
    refine ⟨nI (kS A 1), va_up (M 0) 2 g2, ov (fun _ => nI 0) 1705 100 (upd (M 7 0 1) 601 (nI c)), ?_, ?_, D, C, _, sv, K, rel_st h (s2 := (seK A 1 c, (w, p, q), Z, (mode, W, step, per, ch, ca, cb), (o, acc, hits, dir), T)) ⟨okK_se k1 (by omega), k2, k3, k4, k5, k7, k8, k9, k14, ⟨k15, k15b⟩, k16⟩ (rs_k h.2.2.1 f2) ⟨?_, rt_0, x3.fr k3 (fun j h1 h2 => by rw [ov_o (by omega), ud_n (by omega)]), xV.fr k15 (fun j hj => by rw [ov_o (by omega), ud_n (by omega)]) (by rw [ov_o (by omega), ud_n (by omega)]; exact xV.2.2.1.2.2.1)⟩⟩
    · unfold f8_tellRule f7_tellCareful
      rw [if_neg (by decide), if_pos (show nI 1 = 1 from rfl), st_e, s1.2.2.1, f1]
      rfl
    · unfold f11_rule_j98 f11_rule_j137
      simp (disch := omega) only [rd_n, ck_n, wr_n, cl_n, st_e, b2_e, bd_e, ltp, lep, eqp, m1p, m1l, m1e, m1a, nI_add, pk_sub, pk_mul, dvp, nzp, up_s, up_x, up_01, if_true, if_false, Nat.not_lt_zero, Nat.zero_add, z_0, z_1, z_2, z_3, z_4, z_5, z_10, z_11, z_15, z_20, z_30, z_63, z_64, z_99, z_100, z_127, z_128, z_200, z_256, z_300, z_400, z_500, z_600, z_601, z_602, z_603, z_604, z_605, z_606, z_862, z_990, z_1000, z_1090, z_1390, z_1393, z_1394, z_1395, z_1396, z_1397, z_1398, z_1399, z_1400, z_1401, z_1402, z_1403, z_1404, z_1405, z_1705, z_1805, z_7220, x1.2.2.2.1, pm_forget]
      rfl
    · exact (rn_se (i := 1) (c := c) (by decide) x1).fr (fun j hj => ov_o (by omega))
  · refine ru_j (lo := 10) (hi := 1000) (by omega) rfl rfl hrel (fun c c1 c2 => ?_)
    have b := k1.2.2.2.2.2.2.2.2.2.2.1
    have e2 : ∀ k, est D (seK A 2 c) k = est D A k := by
      intro k
      have : ∀ n, mnr (seK A 2 c) k n = mnr A k n := by
        intro n
        induction n with
        | zero => rfl
        | succ n ih => show min (kC A n (kP A n k)) (mnr (seK A 2 c) k n) = min (kC A n (kP A n k)) (mnr A k n); rw [ih]
      unfold est
      rw [this]
      rfl
    have hK : RK D (seK A 2 c) (va_up (M 0 2) 0 (upd (M 0 2 0) 8 (nI c))) := by
      refine rk_of (rj_se (i := 2) (c := c) (by decide) s1) (fun k hk => ?_)
      rw [up_n (by decide), e2]
      exact s1.2.2.2.2.2.2.2.2.2.2 k hk
    refine ⟨nI (kS A 2), va_up (M 0) 2 (va_up (M 0 2) 0 (upd (M 0 2 0) 8 (nI c))), upd (M 7 0 1) 602 (nI c), ?_, ?_, D, C, _, sv, K, rel_st h (s2 := (seK A 2 c, (w, p, q), Z, (mode, W, step, per, ch, ca, cb), (o, acc, hits, dir), T)) ⟨okK_se k1 (by omega), k2, k3, k4, k5, k7, k8, k9, k14, ⟨k15, k15b⟩, k16⟩ (rs_k h.2.2.1 hK) ⟨?_, ?_, x3.fr k3 (fun j h1 h2 => by rw [ud_n (by omega)]), xV.fr k15 (fun j hj => by rw [ud_n (by omega)]) (by rw [ud_n (by omega)]; exact xV.2.2.1.2.2.1)⟩⟩
    · unfold f8_tellRule f7_tellSample
      rw [if_neg (by decide), if_neg (by decide), if_pos (show nI 2 = 2 from rfl), st_e, s1.2.2.2.1]
      rfl
    · unfold f11_rule_j98 f11_rule_j137
      simp (disch := omega) only [rd_n, ck_n, wr_n, cl_n, st_e, b2_e, bd_e, ltp, lep, eqp, m1p, m1l, m1e, m1a, nI_add, pk_sub, pk_mul, dvp, nzp, up_s, up_x, up_01, if_true, if_false, Nat.not_lt_zero, Nat.zero_add, z_0, z_1, z_2, z_3, z_4, z_5, z_10, z_11, z_15, z_20, z_30, z_63, z_64, z_99, z_100, z_127, z_128, z_200, z_256, z_300, z_400, z_500, z_600, z_601, z_602, z_603, z_604, z_605, z_606, z_862, z_990, z_1000, z_1090, z_1390, z_1393, z_1394, z_1395, z_1396, z_1397, z_1398, z_1399, z_1400, z_1401, z_1402, z_1403, z_1404, z_1405, z_1705, z_1805, z_7220, x1.2.2.2.2.1]
      rfl
    · exact rn_se (i := 2) (c := c) (by decide) x1
    · intro k hk
      rw [ud_n (by omega), e2]
      exact x2 k hk
  · refine ru_j (lo := 0) (hi := 2) (by omega) rfl rfl hrel (fun c c1 c2 => ?_)
    refine ⟨nI mode, va_up (M 0) 1 (va_up (M 0 1) 0 (upd (M 0 1 0) 3 (nI c))), upd (M 7 0 1) 603 (nI c), ?_, ?_, D, C, _, sv, K, rel_st h (s2 := (A, (w, p, q), Z, (c, W, step, per, ch, ca, cb), (o, acc, hits, dir), T)) ⟨k1, k2, k3, k4, k5, c2, k8, k9, k14, ⟨k15, k15b⟩, k16⟩ ⟨?_, ?_, ?_, ?_, ?_, ?_, ?_⟩ ⟨x1.fr (fun j hj => by rw [ud_n (by omega)]), x2.fr (fun j hj => by rw [ud_n (by omega)]), x3.fr k3 (fun j h1 h2 => by rw [ud_n (by omega)]), ?_⟩⟩
    · unfold f8_tellRule f0_tellMode
      rw [if_neg (by decide), if_neg (by decide), if_neg (by decide), if_pos (show nI 3 = 3 from rfl), st_e, s3.2.1]
      rfl
    · unfold f11_rule_j98 f11_rule_j137
      simp (disch := omega) only [rd_n, ck_n, wr_n, cl_n, st_e, b2_e, bd_e, ltp, lep, eqp, m1p, m1l, m1e, m1a, nI_add, pk_sub, pk_mul, dvp, nzp, up_s, up_x, up_01, if_true, if_false, Nat.not_lt_zero, Nat.zero_add, z_0, z_1, z_2, z_3, z_4, z_5, z_10, z_11, z_15, z_20, z_30, z_63, z_64, z_99, z_100, z_127, z_128, z_200, z_256, z_300, z_400, z_500, z_600, z_601, z_602, z_603, z_604, z_605, z_606, z_862, z_990, z_1000, z_1090, z_1390, z_1393, z_1394, z_1395, z_1396, z_1397, z_1398, z_1399, z_1400, z_1401, z_1402, z_1403, z_1404, z_1405, z_1705, z_1805, z_7220, xV.1.1]
      rfl
    · rw [up_n (by decide)]; exact s1
    · rw [up_n (by decide)]; exact s2
    · rw [up_s, up_s]
      exact ⟨by rw [ud_n (by decide)]; exact s3.1, by rw [ud_s], by rw [ud_n (by decide)]; exact s3.2.2.1, by rw [ud_n (by decide)]; exact s3.2.2.2⟩
    · rw [up_n (by decide)]; exact s4
    · rw [up_n (by decide)]; exact s5
    · rw [up_n (by decide)]; exact s6
    · rw [up_n (by decide)]; exact s7
    · obtain ⟨⟨v1, v2, v3⟩, ⟨v4, v5⟩, ⟨v6, v7, v8, v9⟩, ⟨v10, v11, v12⟩, v13, v14⟩ := xV
      refine ⟨⟨ud_s, ?_, ?_⟩, ⟨?_, ?_⟩, ⟨?_, ?_, ?_, ?_⟩, ⟨?_, ?_, ?_⟩, ?_, fun i hi => ?_⟩
      · rw [ud_n (by omega)]; exact v2
      · rw [ud_n (by omega)]; exact v3
      · rw [ud_n (by omega)]; exact v4
      · rw [ud_n (by omega)]; exact v5
      · rw [ud_n (by omega)]; exact v6
      · rw [ud_n (by omega)]; exact v7
      · rw [ud_n (by omega)]; exact v8
      · rw [ud_n (by omega)]; exact v9
      · rw [ud_n (by omega)]; exact v10
      · rw [ud_n (by omega)]; exact v11
      · rw [ud_n (by omega)]; exact v12
      · rw [ud_n (by omega)]; exact v13
      · rw [ud_n (by omega)]; exact v14 i hi
  · refine ru_j (lo := 0) (hi := 20) (by omega) rfl rfl hrel (fun c c1 c2 => ?_)
    refine ⟨nI step, va_up (M 0) 5 (va_up (M 0 5) 0 (upd (upd (upd (upd (M 0 5 0) 0 (nI c)) 3 (nI 0)) 4 (nI 0)) 5 (nI 0))), upd (upd (upd (upd (M 7 0 1) 604 (nI c)) 1402 (nI 0)) 1401 (nI 0)) 1403 (nI 0), ?_, ?_, D, C, _, sv, K, rel_st h (s2 := (A, (w, p, q), Z, (mode, W, c, per, 0, 0, 0), (o, acc, hits, dir), T)) ⟨k1, k2, k3, k4, k5, k7, c2, by omega, k14, ⟨k15, k15b⟩, k16⟩ ⟨?_, ?_, ?_, ?_, ?_, ?_, ?_⟩ ⟨x1.fr (fun j hj => by rw [ud_n (by omega), ud_n (by omega), ud_n (by omega), ud_n (by omega)]), x2.fr (fun j hj => by rw [ud_n (by omega), ud_n (by omega), ud_n (by omega), ud_n (by omega)]), x3.fr k3 (fun j h1 h2 => by rw [ud_n (by omega), ud_n (by omega), ud_n (by omega), ud_n (by omega)]), ?_⟩⟩
    · unfold f8_tellRule f1_tellStep f1_beginAnew
      rw [if_neg (by decide), if_neg (by decide), if_neg (by decide), if_neg (by decide), if_pos (show nI 4 = 4 from rfl)]
      simp only [st_e, bd_e, up_s, up_x, b2_e, s5.1, z_0]
    · unfold f11_rule_j98 f11_rule_j137
      simp (disch := omega) only [rd_n, ck_n, wr_n, cl_n, st_e, b2_e, bd_e, ltp, lep, eqp, m1p, m1l, m1e, m1a, nI_add, pk_sub, pk_mul, dvp, nzp, up_s, up_x, up_01, if_true, if_false, Nat.not_lt_zero, Nat.zero_add, z_0, z_1, z_2, z_3, z_4, z_5, z_10, z_11, z_15, z_20, z_30, z_63, z_64, z_99, z_100, z_127, z_128, z_200, z_256, z_300, z_400, z_500, z_600, z_601, z_602, z_603, z_604, z_605, z_606, z_862, z_990, z_1000, z_1090, z_1390, z_1393, z_1394, z_1395, z_1396, z_1397, z_1398, z_1399, z_1400, z_1401, z_1402, z_1403, z_1404, z_1405, z_1705, z_1805, z_7220, xV.1.2.1]
      rfl
    · rw [up_n (by decide)]; exact s1
    · rw [up_n (by decide)]; exact s2
    · rw [up_n (by decide)]; exact s3
    · rw [up_n (by decide)]; exact s4
    · rw [up_s, up_s]
      refine ⟨?_, ?_, ?_, ?_, ?_, ?_⟩
      · rw [ud_n (by decide), ud_n (by decide), ud_n (by decide), ud_s]
      · rw [ud_n (by decide), ud_n (by decide), ud_n (by decide), ud_n (by decide)]; exact s5.2.1
      · rw [ud_n (by decide), ud_n (by decide), ud_n (by decide), ud_n (by decide)]; exact s5.2.2.1
      · rw [ud_n (by decide), ud_n (by decide), ud_s]
      · rw [ud_n (by decide), ud_s]
      · rw [ud_s]
    · rw [up_n (by decide)]; exact s6
    · rw [up_n (by decide)]; exact s7
    · obtain ⟨⟨v1, v2, v3⟩, ⟨v4, v5⟩, ⟨v6, v7, v8, v9⟩, ⟨v10, v11, v12⟩, v13, v14⟩ := xV
      have hu : ∀ j, j ≠ 604 → j ≠ 1401 → j ≠ 1402 → j ≠ 1403 → upd (upd (upd (upd (M 7 0 1) 604 (nI c)) 1402 (nI 0)) 1401 (nI 0)) 1403 (nI 0) j = M 7 0 1 j := fun j h1 h2 h3 h4 => by rw [ud_n h4, ud_n h2, ud_n h3, ud_n h1]
      refine ⟨⟨?_, ?_, ?_⟩, ⟨?_, ?_⟩, ⟨?_, ?_, ?_, ?_⟩, ⟨?_, ?_, ?_⟩, ?_, fun i hi => ?_⟩
      · rw [hu _ (by omega) (by omega) (by omega) (by omega)]; exact v1
      · rw [ud_n (by decide), ud_n (by decide), ud_n (by decide), ud_s]
      · rw [hu _ (by omega) (by omega) (by omega) (by omega)]; exact v3
      · rw [hu _ (by omega) (by omega) (by omega) (by omega)]; exact v4
      · rw [hu _ (by omega) (by omega) (by omega) (by omega)]; exact v5
      · rw [hu _ (by omega) (by omega) (by omega) (by omega)]; exact v6
      · rw [hu _ (by omega) (by omega) (by omega) (by omega)]; exact v7
      · rw [hu _ (by omega) (by omega) (by omega) (by omega)]; exact v8
      · rw [hu _ (by omega) (by omega) (by omega) (by omega)]; exact v9
      · rw [ud_n (by decide), ud_s]
      · rw [ud_n (by decide), ud_n (by decide), ud_s]
      · rw [ud_s]
      · rw [hu _ (by omega) (by omega) (by omega) (by omega)]; exact v13
      · rw [hu _ (by omega) (by omega) (by omega) (by omega)]; exact v14 i hi
  · refine ru_j (lo := 5) (hi := 500) (by omega) rfl rfl hrel (fun c c1 c2 => ?_)
    refine ⟨nI per, va_up (M 0) 5 (va_up (M 0 5) 0 (upd (upd (upd (upd (M 0 5 0) 1 (nI c)) 3 (nI 0)) 4 (nI 0)) 5 (nI 0))), upd (upd (upd (upd (M 7 0 1) 605 (nI c)) 1402 (nI 0)) 1401 (nI 0)) 1403 (nI 0), ?_, ?_, D, C, _, sv, K, rel_st h (s2 := (A, (w, p, q), Z, (mode, W, step, c, 0, 0, 0), (o, acc, hits, dir), T)) ⟨k1, k2, k3, k4, k5, k7, k8, by omega, k14, ⟨k15, k15b⟩, k16⟩ ⟨?_, ?_, ?_, ?_, ?_, ?_, ?_⟩ ⟨x1.fr (fun j hj => by rw [ud_n (by omega), ud_n (by omega), ud_n (by omega), ud_n (by omega)]), x2.fr (fun j hj => by rw [ud_n (by omega), ud_n (by omega), ud_n (by omega), ud_n (by omega)]), x3.fr k3 (fun j h1 h2 => by rw [ud_n (by omega), ud_n (by omega), ud_n (by omega), ud_n (by omega)]), ?_⟩⟩
    · unfold f8_tellRule f1_tellPeriod f1_beginAnew
      rw [if_neg (by decide), if_neg (by decide), if_neg (by decide), if_neg (by decide), if_neg (by decide), if_pos (show nI 5 = 5 from rfl)]
      simp only [st_e, bd_e, up_s, up_x, b2_e, s5.2.1, z_0]
    · unfold f11_rule_j98 f11_rule_j137
      simp (disch := omega) only [rd_n, ck_n, wr_n, cl_n, st_e, b2_e, bd_e, ltp, lep, eqp, m1p, m1l, m1e, m1a, nI_add, pk_sub, pk_mul, dvp, nzp, up_s, up_x, up_01, if_true, if_false, Nat.not_lt_zero, Nat.zero_add, z_0, z_1, z_2, z_3, z_4, z_5, z_10, z_11, z_15, z_20, z_30, z_63, z_64, z_99, z_100, z_127, z_128, z_200, z_256, z_300, z_400, z_500, z_600, z_601, z_602, z_603, z_604, z_605, z_606, z_862, z_990, z_1000, z_1090, z_1390, z_1393, z_1394, z_1395, z_1396, z_1397, z_1398, z_1399, z_1400, z_1401, z_1402, z_1403, z_1404, z_1405, z_1705, z_1805, z_7220, xV.1.2.2]
      rfl
    · rw [up_n (by decide)]; exact s1
    · rw [up_n (by decide)]; exact s2
    · rw [up_n (by decide)]; exact s3
    · rw [up_n (by decide)]; exact s4
    · rw [up_s, up_s]
      refine ⟨?_, ?_, ?_, ?_, ?_, ?_⟩
      · rw [ud_n (by decide), ud_n (by decide), ud_n (by decide), ud_n (by decide)]; exact s5.1
      · rw [ud_n (by decide), ud_n (by decide), ud_n (by decide), ud_s]
      · rw [ud_n (by decide), ud_n (by decide), ud_n (by decide), ud_n (by decide)]; exact s5.2.2.1
      · rw [ud_n (by decide), ud_n (by decide), ud_s]
      · rw [ud_n (by decide), ud_s]
      · rw [ud_s]
    · rw [up_n (by decide)]; exact s6
    · rw [up_n (by decide)]; exact s7
    · obtain ⟨⟨v1, v2, v3⟩, ⟨v4, v5⟩, ⟨v6, v7, v8, v9⟩, ⟨v10, v11, v12⟩, v13, v14⟩ := xV
      have hu : ∀ j, j ≠ 605 → j ≠ 1401 → j ≠ 1402 → j ≠ 1403 → upd (upd (upd (upd (M 7 0 1) 605 (nI c)) 1402 (nI 0)) 1401 (nI 0)) 1403 (nI 0) j = M 7 0 1 j := fun j h1 h2 h3 h4 => by rw [ud_n h4, ud_n h2, ud_n h3, ud_n h1]
      refine ⟨⟨?_, ?_, ?_⟩, ⟨?_, ?_⟩, ⟨?_, ?_, ?_, ?_⟩, ⟨?_, ?_, ?_⟩, ?_, fun i hi => ?_⟩
      · rw [hu _ (by omega) (by omega) (by omega) (by omega)]; exact v1
      · rw [hu _ (by omega) (by omega) (by omega) (by omega)]; exact v2
      · rw [ud_n (by decide), ud_n (by decide), ud_n (by decide), ud_s]
      · rw [hu _ (by omega) (by omega) (by omega) (by omega)]; exact v4
      · rw [hu _ (by omega) (by omega) (by omega) (by omega)]; exact v5
      · rw [hu _ (by omega) (by omega) (by omega) (by omega)]; exact v6
      · rw [hu _ (by omega) (by omega) (by omega) (by omega)]; exact v7
      · rw [hu _ (by omega) (by omega) (by omega) (by omega)]; exact v8
      · rw [hu _ (by omega) (by omega) (by omega) (by omega)]; exact v9
      · rw [ud_n (by decide), ud_s]
      · rw [ud_n (by decide), ud_n (by decide), ud_s]
      · rw [ud_s]
      · rw [hu _ (by omega) (by omega) (by omega) (by omega)]; exact v13
      · rw [hu _ (by omega) (by omega) (by omega) (by omega)]; exact v14 i hi
