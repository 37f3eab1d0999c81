/-! place, door, rule -/
theorem rk_of {D : Nat} {B : AK} {g : Sg} (h : RJ D B g) (h5 : ∀ k, k < 100 → ∃ t, g 5 k = nI t ∧ t ≤ kS B 3 ∧ min 15 t ≤ est D B k) : RK D B g := by
  obtain ⟨a1, a2, a3, a4, a5, a6, a7, a8, a9, a10⟩ := h
  exact ⟨a1, a2, a3, a4, a5, a6, a7, a8, a9, a10, h5⟩
theorem pk_fg {D : Nat} {A B : AK} {g g6 : Sg} {v a : Int32} (hB : RJ D B g6) (h5 : g6 5 = g 5) (hR : RK D A g) (hv : v = a → B = A) : ∃ g2, f7_forgetIfChanged v a g6 = some g2 ∧ RK D B g2 := by
  unfold f7_forgetIfChanged
  by_cases e : v = a
  · refine ⟨g6, if_pos e, rk_of hB ?_⟩
    rw [h5, hv e]
    exact hR.2.2.2.2.2.2.2.2.2.2
  · refine ⟨_, if_neg e, ?_⟩
    obtain ⟨a1, a2, a3, a4, a5, a6, a7, a8, a9, a10⟩ := hB
    refine rk_of ⟨?_, ?_, ?_, ?_, ?_, ?_, fun r k hr hk => ?_, fun w k hw hk => ?_, fun r c hr hc => ?_, fun b hb => ?_⟩ (fun k hk => ⟨0, ?_, Nat.zero_le _, Nat.zero_le _⟩)
    · rw [up_n (by decide)]; exact a1
    · rw [up_n (by decide)]; exact a2
    · rw [up_n (by decide)]; exact a3
    · rw [up_n (by decide)]; exact a4
    · rw [up_n (by decide)]; exact a5
    · rw [up_n (by decide)]; exact a6
    · rw [up_n (by omega)]; exact a7 r k hr hk
    · rw [up_n (by omega)]; exact a8 w k hw hk
    · rw [up_n (by omega)]; exact a9 r c hr hc
    · rw [up_n (by decide)]; exact a10 b hb
    · rw [up_s, fl_i hk]; rfl
theorem rt_0 {D : Nat} {B : AK} {x : Nat → Int32} : RT D B (ov (fun _ => nI 0) 1705 100 x) := fun k hk => ⟨0, ov_in (by omega) (by omega), Nat.zero_le _, Nat.zero_le _⟩
theorem rs_k {D C : Nat} {A B : AK} {l : List Nat × List Nat × List Nat} {Z : Nat → Nat} {n : Nat × Nat × Nat × Nat × Nat × Nat × Nat} {i : Int32 × Int32 × Int32 × Int32} {T : List Nat} {S : Ob} {g2 : Sg} (h : RS D C (A, l, Z, n, i, T) S) (hB : RK D B g2) : RS D C (B, l, Z, n, i, T) (va_up S 2 g2) := by
  obtain ⟨w, p, q⟩ := l
  obtain ⟨mode, W, step, per, ch, ca, cb⟩ := n
  obtain ⟨o, acc, hits, dir⟩ := i
  obtain ⟨s1, s2, s3, s4, s5, s6, s7⟩ := h
  refine ⟨?_, ?_, ?_, ?_, ?_, ?_, ?_⟩
  · rw [up_s]; exact hB
  · rw [up_n (by decide)]; exact s2
  · rw [up_n (by decide)]; exact s3
  · rw [up_n (by decide)]; exact s4
  · rw [up_n (by decide)]; exact s5
  · rw [up_n (by decide)]; exact s6
  · rw [up_n (by decide)]; exact s7
def plK (A : AK) (r k c : Nat) : AK := ((fun a b => if a = r ∧ b = k then c else kP A a b), kD A, kC A, kB A, kS A, kG A)
def doK (A : AK) (r k c : Nat) : AK := (kP A, (fun a b => if a = r ∧ b = k then c else kD A a b), kC A, kB A, kS A, kG A)
def seK (A : AK) (i c : Nat) : AK := (kP A, kD A, kC A, kB A, (fun j => if j = i then c else kS A j), kG A)
theorem plK_id {A : AK} {r k c : Nat} (h : kP A r k = c) : plK A r k c = A := by
  obtain ⟨P, Q, R, B, S, G⟩ := A
  have : (fun a b => if a = r ∧ b = k then c else P a b) = P := by
    funext a b
    by_cases e : a = r ∧ b = k
    · rw [if_pos e, e.1, e.2]; exact h.symm
    · rw [if_neg e]
  show ((fun a b => if a = r ∧ b = k then c else P a b), Q, R, B, S, G) = (P, Q, R, B, S, G)
  rw [this]
theorem doK_id {A : AK} {r k c : Nat} (h : kD A r k = c) : doK A r k c = A := by
  obtain ⟨P, Q, R, B, S, G⟩ := A
  have : (fun a b => if a = r ∧ b = k then c else Q a b) = Q := by
    funext a b
    by_cases e : a = r ∧ b = k
    · rw [if_pos e, e.1, e.2]; exact h.symm
    · rw [if_neg e]
  show (P, (fun a b => if a = r ∧ b = k then c else Q a b), R, B, S, G) = (P, Q, R, B, S, G)
  rw [this]
theorem seK_id {A : AK} {i c : Nat} (h : kS A i = c) : seK A i c = A := by
  obtain ⟨P, Q, R, B, S, G⟩ := A
  have : (fun j => if j = i then c else S j) = S := by
    funext j
    by_cases e : j = i
    · rw [if_pos e, e]; exact h.symm
    · rw [if_neg e]
  show (P, Q, R, B, (fun j => if j = i then c else S j), G) = (P, Q, R, B, S, G)
  rw [this]
theorem nI_inj {a b : Nat} (ha : a < 1000000) (hb : b < 1000000) (h : nI a = nI b) : a = b := by
  rw [eqp ha hb] at h; exact h
theorem sim_place : Sim_place Rel := by
  intro M a1 a2 a3 h
  have hno := rel_no h
  obtain ⟨D, C, s, sv, K, h⟩ := h
  obtain ⟨A, ⟨w, p, q⟩, Z, ⟨mode, W, step, per, ch, ca, cb⟩, ⟨o, acc, hits, dir⟩, T⟩ := s
  obtain ⟨k1, k2, k3, k4, k5, k7, k8, k9, k14, ⟨k15, k15b⟩, k16⟩ := h.2.1
  obtain ⟨x1, x2, x3, xV⟩ := h.2.2.2.1
  have hD := k1.2.1
  have r1 := h.2.2.1.1
  unfold f10_place f11_place
  rw [h.2.2.2.2.1.1]
  rcases in_c a1 D (by omega) with ⟨e1, e2⟩ | ⟨r, hr, rfl, e2⟩
  · refine ⟨-2, M, M 7 0, ?_, rfl, by rw [h.2.2.2.2.1.2.2.1, e2]; rfl, hno⟩
    by_cases h0 : a1 < 0
    · exact if_pos h0
    · rw [if_neg h0]; exact if_pos (e1.resolve_left h0)
  have e3 : ¬ nI r < 0 := by rw [z_0, ltp (by omega) (by omega)]; omega
  have e4 : ¬ nI D ≤ nI r := by rw [lep (by omega) (by omega)]; omega
  rw [if_neg e3, if_neg e4]
  rcases key_c a2 with ⟨e5, e6⟩ | ⟨k, hk, rfl, e5, e6⟩
  · refine ⟨-2, M, M 7 0, by rw [e5]; rfl, rfl, ?_, hno⟩
    rw [h.2.2.2.2.1.2.2.1, e2, bd_e, if_neg (show ¬ (1 : Int32) = 0 by decide), e6]
    rfl
  rw [e5, bd_e, if_neg (show ¬ (1 : Int32) = 0 by decide)]
  rcases in_c a3 64 (by omega) with ⟨e7, e8⟩ | ⟨c, hc, rfl, e8⟩
  · have e8 : f11_in a3 0 63 = some 0 := e8
    refine ⟨-2, M, M 7 0, ?_, rfl, ?_, hno⟩
    · by_cases h0 : a3 < 0
      · exact if_pos h0
      · rw [if_neg h0]; exact if_neg (Int32.not_lt.mpr (e7.resolve_left h0))
    · rw [h.2.2.2.2.1.2.2.1, e2, bd_e, if_neg (show ¬ (1 : Int32) = 0 by decide), e6, bd_e, if_neg (show ¬ (1 : Int32) = 0 by decide), e8]
      rfl
  have e8 : f11_in (nI c) 0 63 = some 1 := e8
  have hv : M 0 2 (r + 10) k = nI (kP A r k) := r1.2.2.2.2.2.2.1 r k (by omega) hk
  have hpk := k1.2.2.1 r k (by omega) hk
  have hJ : RJ D (plK A r k c) (va_up (M 0 2) (r + 10) (upd (M 0 2 (r + 10)) k (nI c))) := by
    obtain ⟨a1, a2, a3, a4, a5, a6, a7, a8, a9, a10, a11⟩ := r1
    refine ⟨?_, ?_, ?_, ?_, ?_, ?_, fun a b ha hb => ?_, fun w k hw hk => ?_, fun r c hr hc => ?_, fun b hb => ?_⟩
    · rw [up_n (by omega)]; exact a1
    · rw [up_n (by omega)]; exact a2
    · rw [up_n (by omega)]; exact a3
    · rw [up_n (by omega)]; exact a4
    · rw [up_n (by omega)]; exact a5
    · rw [up_n (by omega)]; exact a6
    · show _ = nI (if a = r ∧ b = k then c else kP A a b)
      by_cases e : a = r
      · subst e
        rw [up_s]
        by_cases e9 : b = k
        · rw [e9, ud_s, if_pos ⟨rfl, rfl⟩]
        · rw [ud_n e9, if_neg (fun q => e9 q.2)]; exact a7 a b ha hb
      · rw [up_n (by omega), if_neg (fun q => e q.1)]; exact a7 a b ha hb
    · rw [up_n (by omega)]; exact a8 w k hw hk
    · rw [up_n (by omega)]; exact a9 _ _ hr hc
    · rw [up_n (by omega)]; exact a10 b hb
  obtain ⟨g2, f1, f2⟩ := pk_fg (v := nI (kP A r k)) (a := nI c) hJ (up_n (by omega)) r1 (fun e => plK_id (nI_inj (by omega) (by omega) e))
  refine ⟨nI (kP A r k), uI M 0 2 g2, va_up (M 7 0) 1 (ov (fun _ => nI 0) 1705 100 (upd (M 7 0 1) (100 * r + k) (nI c))), ?_, by rw [uI_ne (by decide)], ?_, D, C, _, sv, K, rel_st h (s2 := (plK A r k c, (w, p, q), Z, (mode, W, step, per, ch, ca, cb), (o, acc, hits, dir), T)) ⟨?_, k2, k3, k4, k5, k7, k8, k9, k14, ⟨k15, k15b⟩, k16⟩ (rs_k h.2.2.1 f2) ⟨?_, rt_0, x3.fr k3 (fun j h1 h2 => by rw [ov_o (by omega), ud_n (by omega)]), xV.fr k15 (fun j hj => by rw [ov_o (by omega), ud_n (by omega)]) (by rw [ov_o (by omega), ud_n (by omega)]; exact xV.2.2.1.2.2.1)⟩⟩
  · rw [if_neg (show ¬ nI c < 0 by rw [z_0, ltp (by omega) (by omega)]; omega), if_pos (show nI c < 64 by rw [z_64, ltp (by omega) (by omega)]; omega)]
    unfold f7_tellPlace
    simp (disch := omega) only [ck_n, rd_n, wr_n, cl_n, hv]
    rw [f1]
    rfl
  · rw [uI_ne (by decide), h.2.2.2.2.1.2.2.1, e2, bd_e, if_neg (show ¬ (1 : Int32) = 0 by decide), e6, bd_e, if_neg (show ¬ (1 : Int32) = 0 by decide), e8, bd_e, if_neg (show ¬ (1 : Int32) = 0 by decide)]
    simp (disch := omega) only [rd_n, ck_n, wr_n, cl_n, st_e, b2_e, bd_e, ltp, lep, eqp, m1p, m1l, m1e, m1a, nI_add, pk_sub, pk_mul, dvp, nzp, up_s, up_x, up_01, if_true, if_false, Nat.not_lt_zero, Nat.zero_add, z_0, z_1, z_2, z_3, z_4, z_5, z_10, z_11, z_15, z_20, z_30, z_63, z_64, z_99, z_100, z_127, z_128, z_200, z_256, z_300, z_400, z_500, z_600, z_601, z_602, z_603, z_604, z_605, z_606, z_862, z_990, z_1000, z_1090, z_1390, z_1393, z_1394, z_1395, z_1396, z_1397, z_1398, z_1399, z_1400, z_1401, z_1402, z_1403, z_1404, z_1405, z_1705, z_1805, z_7220, x1.1 r k (show r < 4 by omega) hk, pm_forget]
  · obtain ⟨b1, b2, b3, b4, b5, b6, b7, b8, b9, b10, b11, b12⟩ := k1
    refine ⟨b1, b2, fun a b ha hb => ?_, b4, b5, b6, b7, b8, b9, b10, b11, b12⟩
    show (if a = r ∧ b = k then c else kP A a b) < 64
    by_cases e : a = r ∧ b = k
    · rw [if_pos e]; exact hc
    · rw [if_neg e]; exact b3 a b ha hb
  · obtain ⟨b1, b2, b3, b4, b5, b6, b7, b8, b9⟩ := x1
    refine ⟨fun a b ha hb => ?_, fun a b ha hb => ?_, ?_, ?_, ?_, fun a b ha hb => ?_, fun b hb => ?_, ?_, ?_⟩
    · show _ = nI (if a = r ∧ b = k then c else kP A a b)
      rw [ov_o (by omega)]
      by_cases e : a = r ∧ b = k
      · rw [if_pos e, e.1, e.2, ud_s]
      · rw [if_neg e, ud_n (by omega)]; exact b1 a b ha hb
    · rw [ov_o (by omega), ud_n (by omega)]; exact b2 a b ha hb
    · rw [ov_o (by omega), ud_n (by omega)]; exact b3
    · rw [ov_o (by omega), ud_n (by omega)]; exact b4
    · rw [ov_o (by omega), ud_n (by omega)]; exact b5
    · rw [ov_o (by omega), ud_n (by omega)]; exact b6 a b ha hb
    · rw [ov_o (by omega), ud_n (by omega)]; exact b7 b hb
    · rw [ov_o (by omega), ud_n (by omega)]; exact b8
    · rw [ov_o (by omega), ud_n (by omega)]; exact b9
theorem sim_door : Sim_door Rel := by
  intro M a1 a2 a3 h
  have hno := rel_no h
  obtain ⟨D, C, s, sv, K, h⟩ := h
  obtain ⟨A, ⟨w, p, q⟩, Z, ⟨mode, W, step, per, ch, ca, cb⟩, ⟨o, acc, hits, dir⟩, T⟩ := s
  obtain ⟨k1, k2, k3, k4, k5, k7, k8, k9, k14, ⟨k15, k15b⟩, k16⟩ := h.2.1
  obtain ⟨x1, x2, x3, xV⟩ := h.2.2.2.1
  have r1 := h.2.2.1.1
  unfold f10_door f11_door
  rcases in_c a1 2 (by omega) with ⟨e1, e2⟩ | ⟨r, hr, rfl, e2⟩
  · have e2 : f11_in a1 0 1 = some 0 := e2
    refine ⟨-2, M, M 7 0, ?_, rfl, by rw [e2]; rfl, hno⟩
    by_cases h0 : a1 < 0
    · exact if_pos h0
    · rw [if_neg h0]; exact if_pos (Int32.lt_of_lt_of_le (by decide) (e1.resolve_left h0))
  have e2 : f11_in (nI r) 0 1 = some 1 := e2
  have e3 : ¬ nI r < 0 := by rw [z_0, ltp (by omega) (by omega)]; omega
  have e4 : ¬ (1 : Int32) < nI r := by rw [z_1, ltp (by omega) (by omega)]; omega
  rw [if_neg e3, if_neg e4]
  rcases key_c a2 with ⟨e5, e6⟩ | ⟨k, hk, rfl, e5, e6⟩
  · refine ⟨-2, M, M 7 0, by rw [e5]; rfl, rfl, ?_, hno⟩
    rw [e2, bd_e, if_neg (show ¬ (1 : Int32) = 0 by decide), e6]
    rfl
  rw [e5, bd_e, if_neg (show ¬ (1 : Int32) = 0 by decide)]
  rcases in_c a3 128 (by omega) with ⟨e7, e8⟩ | ⟨c, hc, rfl, e8⟩
  · have e8 : f11_in a3 0 127 = some 0 := e8
    refine ⟨-2, M, M 7 0, ?_, rfl, ?_, hno⟩
    · by_cases h0 : a3 < 0
      · exact if_pos h0
      · rw [if_neg h0]; exact if_neg (Int32.not_lt.mpr (e7.resolve_left h0))
    · rw [e2, bd_e, if_neg (show ¬ (1 : Int32) = 0 by decide), e6, bd_e, if_neg (show ¬ (1 : Int32) = 0 by decide), e8]
      rfl
  have e8 : f11_in (nI c) 0 127 = some 1 := e8
  have hv : M 0 2 (r + 14) k = nI (kD A r k) := r1.2.2.2.2.2.2.2.1 r k hr hk
  have hpk := k1.2.2.2.1 r k hr hk
  have hJ : RJ D (doK A r k c) (va_up (M 0 2) (r + 14) (upd (M 0 2 (r + 14)) k (nI c))) := by
    obtain ⟨a1, a2, a3, a4, a5, a6, a7, a8, a9, a10, a11⟩ := r1
    refine ⟨?_, ?_, ?_, ?_, ?_, ?_, fun a b ha hb => ?_, fun a b ha hb => ?_, fun r c hr hc => ?_, fun b hb => ?_⟩
    · rw [up_n (by omega)]; exact a1
    · rw [up_n (by omega)]; exact a2
    · rw [up_n (by omega)]; exact a3
    · rw [up_n (by omega)]; exact a4
    · rw [up_n (by omega)]; exact a5
    · rw [up_n (by omega)]; exact a6
    · rw [up_n (by omega)]; exact a7 _ _ ha hb
    · show _ = nI (if a = r ∧ b = k then c else kD A a b)
      by_cases e : a = r
      · subst e
        rw [up_s]
        by_cases e9 : b = k
        · rw [e9, ud_s, if_pos ⟨rfl, rfl⟩]
        · rw [ud_n e9, if_neg (fun q => e9 q.2)]; exact a8 a b ha hb
      · rw [up_n (by omega), if_neg (fun q => e q.1)]; exact a8 a b ha hb
    · rw [up_n (by omega)]; exact a9 _ _ hr hc
    · rw [up_n (by omega)]; exact a10 b hb
  obtain ⟨g2, f1, f2⟩ := pk_fg (v := nI (kD A r k)) (a := nI c) hJ (up_n (by omega)) r1 (fun e => doK_id (nI_inj (by omega) (by omega) e))
  refine ⟨nI (kD A r k), uI M 0 2 g2, va_up (M 7 0) 1 (ov (fun _ => nI 0) 1705 100 (upd (M 7 0 1) (400 + 100 * r + k) (nI c))), ?_, by rw [uI_ne (by decide)], ?_, D, C, _, sv, K, rel_st h (s2 := (doK A r k c, (w, p, q), Z, (mode, W, step, per, ch, ca, cb), (o, acc, hits, dir), T)) ⟨?_, k2, k3, k4, k5, k7, k8, k9, k14, ⟨k15, k15b⟩, k16⟩ (rs_k h.2.2.1 f2) ⟨?_, rt_0, x3.fr k3 (fun j h1 h2 => by rw [ov_o (by omega), ud_n (by omega)]), xV.fr k15 (fun j hj => by rw [ov_o (by omega), ud_n (by omega)]) (by rw [ov_o (by omega), ud_n (by omega)]; exact xV.2.2.1.2.2.1)⟩⟩
  · rw [if_neg (show ¬ nI c < 0 by rw [z_0, ltp (by omega) (by omega)]; omega), if_pos (show nI c < 128 by rw [z_128, ltp (by omega) (by omega)]; omega)]
    unfold f7_tellBit
    simp (disch := omega) only [ck_n, rd_n, wr_n, cl_n, hv]
    rw [f1]
    rfl
  · rw [uI_ne (by decide), e2, bd_e, if_neg (show ¬ (1 : Int32) = 0 by decide), e6, bd_e, if_neg (show ¬ (1 : Int32) = 0 by decide), e8, bd_e, if_neg (show ¬ (1 : Int32) = 0 by decide)]
    simp (disch := omega) only [rd_n, ck_n, wr_n, cl_n, st_e, b2_e, bd_e, ltp, lep, eqp, m1p, m1l, m1e, m1a, nI_add, pk_sub, pk_mul, dvp, nzp, up_s, up_x, up_01, if_true, if_false, Nat.not_lt_zero, Nat.zero_add, z_0, z_1, z_2, z_3, z_4, z_5, z_10, z_11, z_15, z_20, z_30, z_63, z_64, z_99, z_100, z_127, z_128, z_200, z_256, z_300, z_400, z_500, z_600, z_601, z_602, z_603, z_604, z_605, z_606, z_862, z_990, z_1000, z_1090, z_1390, z_1393, z_1394, z_1395, z_1396, z_1397, z_1398, z_1399, z_1400, z_1401, z_1402, z_1403, z_1404, z_1405, z_1705, z_1805, z_7220, x1.2.1 r k hr hk, pm_forget]
  · obtain ⟨b1, b2, b3, b4, b5, b6, b7, b8, b9, b10, b11, b12⟩ := k1
    refine ⟨b1, b2, b3, fun a b ha hb => ?_, b5, b6, b7, b8, b9, b10, b11, b12⟩
    show (if a = r ∧ b = k then c else kD A a b) < 128
    by_cases e : a = r ∧ b = k
    · rw [if_pos e]; exact hc
    · rw [if_neg e]; exact b4 a b ha hb
  · obtain ⟨b1, b2, b3, b4, b5, b6, b7, b8, b9⟩ := x1
    refine ⟨fun a b ha hb => ?_, fun a b ha hb => ?_, ?_, ?_, ?_, fun a b ha hb => ?_, fun b hb => ?_, ?_, ?_⟩
    · rw [ov_o (by omega), ud_n (by omega)]; exact b1 a b ha hb
    · show _ = nI (if a = r ∧ b = k then c else kD A a b)
      rw [ov_o (by omega)]
      by_cases e : a = r ∧ b = k
      · rw [if_pos e, e.1, e.2, ud_s]
      · rw [if_neg e, ud_n (by omega)]; exact b2 a b ha hb
    · rw [ov_o (by omega), ud_n (by omega)]; exact b3
    · rw [ov_o (by omega), ud_n (by omega)]; exact b4
    · rw [ov_o (by omega), ud_n (by omega)]; exact b5
    · rw [ov_o (by omega), ud_n (by omega)]; exact b6 a b ha hb
    · rw [ov_o (by omega), ud_n (by omega)]; exact b7 b hb
    · rw [ov_o (by omega), ud_n (by omega)]; exact b8
    · rw [ov_o (by omega), ud_n (by omega)]; exact b9
