/-! save and load -/
theorem RX.cg {D C : Nat} {s : AS} {x y : Nat → Int32} (ho : okS D C s) (h : RX D C s x) (e : ∀ j, j < 1805 → y j = x j) : RX D C s y := by
  obtain ⟨A, ⟨w, p, q⟩, Z, ⟨mode, W, step, per, ch, ca, cb⟩, ⟨o, acc, hits, dir⟩, T⟩ := s
  obtain ⟨k1, k2, k3, k4, k5, k7, k8, k9, k14, ⟨k15, k15b⟩, k16⟩ := ho
  obtain ⟨x1, x2, x3, xV⟩ := h
  exact ⟨x1.fr (fun j hj => e j (by omega)), fun k hk => by rw [e _ (by omega)]; exact x2 k hk, x3.fr k3 (fun j h1 h2 => e j (by omega)), xV.fr k15 (fun j hj => e j (by omega)) (by rw [e _ (by omega)]; exact xV.2.2.1.2.2.1)⟩
theorem cp7a {h : Sg} : ∀ (m r n : Nat) (g : Sg), 4 - r = m → r ≤ 4 → m < n → (∀ q c, q < r → c < 64 → g (q + 6) c = h (q + 6) c) → (∀ q k, q < r → k < 100 → g (q + 10) k = h (q + 10) k) → ∃ g2, f7_copyFrom_l2 h n (nI r) g = f7_copyFrom_j51 h g2 ∧ g2 0 = g 0 ∧ (∀ q c, q < 4 → c < 64 → g2 (q + 6) c = h (q + 6) c) ∧ ∀ q k, q < 4 → k < 100 → g2 (q + 10) k = h (q + 10) k := by
  intro m
  induction m with
  | zero =>
    intro r n g e hr hn h1 h2
    obtain ⟨n, rfl⟩ : ∃ k, n = k + 1 := ⟨n - 1, by omega⟩
    refine ⟨g, ?_, rfl, fun q c hq hc => h1 q c (by omega) hc, fun q k hq hk => h2 q k (by omega) hk⟩
    show f7_copyFrom_b2 h (f7_copyFrom_l2 h n) _ _ = _
    unfold f7_copyFrom_b2
    simp (disch := omega) only [rd_n, ck_n, wr_n, cl_n, st_e, b2_e, bd_e, ltp, lep, eqp, m1p, m1l, m1e, m1a, nI_add, pk_sub, pk_mul, dvp, nzp, up_s, up_x, up_01, if_true, if_false, Nat.not_lt_zero, Nat.zero_add, z_0, z_1, z_2, z_3, z_4, z_5, z_10, z_11, z_15, z_20, z_30, z_63, z_64, z_99, z_100, z_127, z_128, z_200, z_256, z_300, z_400, z_500, z_600, z_601, z_602, z_603, z_604, z_605, z_606, z_862, z_990, z_1000, z_1090, z_1390, z_1393, z_1394, z_1395, z_1396, z_1397, z_1398, z_1399, z_1400, z_1401, z_1402, z_1403, z_1404, z_1405, z_1705, z_1805, z_7220, if_pos (show 4 ≤ r by omega)]
  | succ m ih =>
    intro r n g e hr hn h1 h2
    obtain ⟨n, rfl⟩ : ∃ k, n = k + 1 := ⟨n - 1, by omega⟩
    obtain ⟨g2, a1, a2, a3, a4⟩ := ih (r + 1) n (va_up (va_up g (r + 6) (va_cpy (h (r + 6)) (g (r + 6)) 0 0 64)) (r + 10) (va_cpy (h (r + 10)) (g (r + 10)) 0 0 100)) (by omega) (by omega) (by omega) (fun q c hq hc => by
      by_cases eq : q = r
      · subst eq
        rw [up_n (by omega), up_s, cp_i hc]
      · rw [up_n (by omega), up_n (by omega)]; exact h1 q c (by omega) hc) (fun q k hq hk => by
      by_cases eq : q = r
      · subst eq
        rw [up_s, cp_i hk]
      · rw [up_n (by omega), up_n (by omega)]; exact h2 q k (by omega) hk)
    refine ⟨g2, ?_, ?_, a3, a4⟩
    · show f7_copyFrom_b2 h (f7_copyFrom_l2 h n) _ _ = _
      unfold f7_copyFrom_b2
      simp (disch := omega) only [rd_n, ck_n, wr_n, cl_n, st_e, b2_e, bd_e, ltp, lep, eqp, m1p, m1l, m1e, m1a, nI_add, pk_sub, pk_mul, dvp, nzp, up_s, up_x, up_01, if_true, if_false, Nat.not_lt_zero, Nat.zero_add, z_0, z_1, z_2, z_3, z_4, z_5, z_10, z_11, z_15, z_20, z_30, z_63, z_64, z_99, z_100, z_127, z_128, z_200, z_256, z_300, z_400, z_500, z_600, z_601, z_602, z_603, z_604, z_605, z_606, z_862, z_990, z_1000, z_1090, z_1390, z_1393, z_1394, z_1395, z_1396, z_1397, z_1398, z_1399, z_1400, z_1401, z_1402, z_1403, z_1404, z_1405, z_1705, z_1805, z_7220, if_neg (show ¬ 4 ≤ r by omega)]
      rw [up_n (show r + 10 ≠ r + 6 by omega)]
      exact a1
    · rw [a2, up_n (by omega), up_n (by omega)]
theorem cp7b {h : Sg} : ∀ (m r n : Nat) (g : Sg), 2 - r = m → r ≤ 2 → m < n → (∀ q k, q < r → k < 100 → g (q + 14) k = h (q + 14) k) → ∃ g2, f7_copyFrom_l53 h n (nI r) g = f7_copyFrom_j83 h g2 ∧ (∀ o, o < 14 → g2 o = g o) ∧ ∀ q k, q < 2 → k < 100 → g2 (q + 14) k = h (q + 14) k := by
  intro m
  induction m with
  | zero =>
    intro r n g e hr hn h1
    obtain ⟨n, rfl⟩ : ∃ k, n = k + 1 := ⟨n - 1, by omega⟩
    refine ⟨g, ?_, fun o _ => rfl, fun q k hq hk => h1 q k (by omega) hk⟩
    show f7_copyFrom_b53 h (f7_copyFrom_l53 h n) _ _ = _
    unfold f7_copyFrom_b53
    simp (disch := omega) only [rd_n, ck_n, wr_n, cl_n, st_e, b2_e, bd_e, ltp, lep, eqp, m1p, m1l, m1e, m1a, nI_add, pk_sub, pk_mul, dvp, nzp, up_s, up_x, up_01, if_true, if_false, Nat.not_lt_zero, Nat.zero_add, z_0, z_1, z_2, z_3, z_4, z_5, z_10, z_11, z_15, z_20, z_30, z_63, z_64, z_99, z_100, z_127, z_128, z_200, z_256, z_300, z_400, z_500, z_600, z_601, z_602, z_603, z_604, z_605, z_606, z_862, z_990, z_1000, z_1090, z_1390, z_1393, z_1394, z_1395, z_1396, z_1397, z_1398, z_1399, z_1400, z_1401, z_1402, z_1403, z_1404, z_1405, z_1705, z_1805, z_7220, if_pos (show 2 ≤ r by omega)]
  | succ m ih =>
    intro r n g e hr hn h1
    obtain ⟨n, rfl⟩ : ∃ k, n = k + 1 := ⟨n - 1, by omega⟩
    obtain ⟨g2, a1, a2, a3⟩ := ih (r + 1) n (va_up g (r + 14) (va_cpy (h (r + 14)) (g (r + 14)) 0 0 100)) (by omega) (by omega) (by omega) (fun q k hq hk => by
      by_cases eq : q = r
      · subst eq
        rw [up_s, cp_i hk]
      · rw [up_n (by omega)]; exact h1 q k (by omega) hk)
    refine ⟨g2, ?_, fun o ho => ?_, a3⟩
    · show f7_copyFrom_b53 h (f7_copyFrom_l53 h n) _ _ = _
      unfold f7_copyFrom_b53
      simp (disch := omega) only [rd_n, ck_n, wr_n, cl_n, st_e, b2_e, bd_e, ltp, lep, eqp, m1p, m1l, m1e, m1a, nI_add, pk_sub, pk_mul, dvp, nzp, up_s, up_x, up_01, if_true, if_false, Nat.not_lt_zero, Nat.zero_add, z_0, z_1, z_2, z_3, z_4, z_5, z_10, z_11, z_15, z_20, z_30, z_63, z_64, z_99, z_100, z_127, z_128, z_200, z_256, z_300, z_400, z_500, z_600, z_601, z_602, z_603, z_604, z_605, z_606, z_862, z_990, z_1000, z_1090, z_1390, z_1393, z_1394, z_1395, z_1396, z_1397, z_1398, z_1399, z_1400, z_1401, z_1402, z_1403, z_1404, z_1405, z_1705, z_1805, z_7220, if_neg (show ¬ 2 ≤ r by omega)]
      exact a1
    · rw [a2 o ho, up_n (by omega)]
theorem cp7 {D : Nat} {A : AK} {h g : Sg} (hR : RK D A h) (h5 : g 0 5 = nI D) : ∃ g2, f7_copyFrom h g = some g2 ∧ RK D A g2 := by
  obtain ⟨g2, a1, a2, a3, a4⟩ := cp7a (h := h) 4 0 NF g rfl (by omega) (by decide) (fun q c hq => absurd hq (Nat.not_lt_zero q)) (fun q c hq => absurd hq (Nat.not_lt_zero q))
  obtain ⟨g3, b1, b2, b3⟩ := cp7b (h := h) 2 0 NF g2 rfl (by omega) (by decide) (fun q c hq => absurd hq (Nat.not_lt_zero q))
  obtain ⟨r1, r2, r3, r4, r5, r6, r7, r8, r9, r10, r11⟩ := hR
  refine ⟨_, Eq.trans a1 (Eq.trans b1 rfl), ?_, ?_, ?_, ?_, ?_, ?_, fun r k hr hk => ?_, fun w k hw hk => ?_, fun r c hr hc => ?_, fun b hb => ?_, fun k hk => ?_⟩
  · simp (disch := omega) only [up_s, up_n, ud_n, ud_s]
    rw [b2 0 (by omega), a2]; exact h5
  · simp (disch := omega) only [up_s, up_n, ud_n, ud_s]; exact r2
  · simp (disch := omega) only [up_s, up_n, ud_n, ud_s]; exact r3
  · simp (disch := omega) only [up_s, up_n, ud_n, ud_s]; exact r4
  · simp (disch := omega) only [up_s, up_n, ud_n, ud_s]; exact r5
  · simp (disch := omega) only [up_s, up_n, ud_n, ud_s]; exact r6
  · simp (disch := omega) only [up_n]
    rw [b2 _ (by omega), a4 r k hr hk]; exact r7 r k hr hk
  · simp (disch := omega) only [up_n]
    rw [b3 w k hw hk]; exact r8 w k hw hk
  · simp (disch := omega) only [up_n]
    rw [b2 _ (by omega), a3 r c hr hc]; exact r9 r c hr hc
  · simp (disch := omega) only [up_n, up_s]
    rw [cp_i hb]; exact r10 b hb
  · simp (disch := omega) only [up_n, up_s]
    rw [cp_i hk]; exact r11 k hk
theorem cp5a {h : Sg} : ∀ (m r n : Nat) (g : Sg), 3 - r = m → r ≤ 3 → m < n → (∀ q, q < r → g 2 q = h 2 q ∧ g 3 q = h 3 q ∧ ∀ c, c < 100 → g (q + 6) c = h (q + 6) c) → ∃ g2, f5_copyFrom_l2 3 h n (nI r) g = f5_copyFrom_j69 3 h g2 ∧ ∀ q, q < 3 → g2 2 q = h 2 q ∧ g2 3 q = h 3 q ∧ ∀ c, c < 100 → g2 (q + 6) c = h (q + 6) c := by
  intro m
  induction m with
  | zero =>
    intro r n g e hr hn h1
    obtain ⟨n, rfl⟩ : ∃ k, n = k + 1 := ⟨n - 1, by omega⟩
    refine ⟨g, ?_, fun q hq => h1 q (by omega)⟩
    show f5_copyFrom_b2 3 h (f5_copyFrom_l2 3 h n) _ _ = _
    unfold f5_copyFrom_b2
    rw [if_pos (show Int32.ofNat 3 ≤ nI r by show nI 3 ≤ nI r; rw [lep (by omega) (by omega)]; omega)]
  | succ m ih =>
    intro r n g e hr hn h1
    obtain ⟨n, rfl⟩ : ∃ k, n = k + 1 := ⟨n - 1, by omega⟩
    obtain ⟨g2, a1, a2⟩ := ih (r + 1) n (va_up (va_up (va_up g (r + 6) (va_cpy (h (r + 6)) (g (r + 6)) 0 0 100)) 2 (upd (g 2) r (h 2 r))) 3 (upd (g 3) r (h 3 r))) (by omega) (by omega) (by omega) (fun q hq => by
      by_cases eq : q = r
      · subst eq
        refine ⟨?_, ?_, fun c hc => ?_⟩
        · rw [up_n (by omega), up_s, ud_s]
        · rw [up_s, ud_s]
        · rw [up_n (by omega), up_n (by omega), up_s, cp_i hc]
      · obtain ⟨b1, b2, b3⟩ := h1 q (by omega)
        refine ⟨?_, ?_, fun c hc => ?_⟩
        · rw [up_n (by omega), up_s, ud_n eq]; exact b1
        · rw [up_s, ud_n eq]; exact b2
        · rw [up_n (by omega), up_n (by omega), up_n (by omega)]; exact b3 c hc)
    refine ⟨g2, ?_, a2⟩
    have hn3 : ¬ Int32.ofNat 3 ≤ nI r := by
      show ¬ nI 3 ≤ nI r
      rw [lep (by omega) (by omega)]; omega
    show f5_copyFrom_b2 3 h (f5_copyFrom_l2 3 h n) _ _ = _
    unfold f5_copyFrom_b2
    rw [if_neg hn3, if_neg hn3]
    simp (disch := omega) only [rd_n, ck_n, wr_n, cl_n, st_e, b2_e, bd_e, ltp, lep, eqp, m1p, m1l, m1e, m1a, nI_add, pk_sub, pk_mul, dvp, nzp, up_s, up_x, up_01, if_true, if_false, Nat.not_lt_zero, Nat.zero_add, z_0, z_1, z_2, z_3, z_4, z_5, z_10, z_11, z_15, z_20, z_30, z_63, z_64, z_99, z_100, z_127, z_128, z_200, z_256, z_300, z_400, z_500, z_600, z_601, z_602, z_603, z_604, z_605, z_606, z_862, z_990, z_1000, z_1090, z_1390, z_1393, z_1394, z_1395, z_1396, z_1397, z_1398, z_1399, z_1400, z_1401, z_1402, z_1403, z_1404, z_1405, z_1705, z_1805, z_7220]
    rw [up_n (show (2 : Nat) ≠ r + 6 by omega), up_n (show (3 : Nat) ≠ 2 by omega), up_n (show (3 : Nat) ≠ r + 6 by omega)]
    exact a1
theorem cp5 {L : Nat → List Nat} {Z : Nat → Nat} {h g : Sg} (hL : okL 3 L) (hR : RW 3 L Z h) : ∃ g2, f5_copyFrom 3 h g = some g2 ∧ RW 3 L Z g2 := by
  obtain ⟨g2, a1, a2⟩ := cp5a (h := h) 3 0 NF g rfl (by omega) (by decide) (fun q hq => absurd hq (Nat.not_lt_zero q))
  obtain ⟨r1, r2, r3, r4, r5⟩ := hR
  refine ⟨_, Eq.trans a1 rfl, fun r hr => ?_, fun r hr => ?_, fun r i hr hi => ?_, fun k hk => ?_, fun k hk => ?_⟩
  · simp (disch := omega) only [up_n]
    rw [(a2 r hr).1]; exact r1 r hr
  · simp (disch := omega) only [up_n]
    rw [(a2 r hr).2.1]; exact r2 r hr
  · have := hL.len hr
    simp (disch := omega) only [up_n]
    rw [(a2 r hr).2.2 i (by omega)]; exact r3 r i hr hi
  · simp (disch := omega) only [up_n, up_s]
    rw [cp_i hk]; exact r4 k hk
  · simp (disch := omega) only [up_n, up_s]
    rw [cp_i hk]; exact r5 k hk
theorem cp8 {D C : Nat} {s : AS} {h S : Ob} (ho : okS D C s) (hR : RS D C s h) (c1 : S 2 0 5 = nI D) (c2 : S 1 0 2 = nI C) : ∃ S2, f8_copyFrom h S = some S2 ∧ RS D C s S2 ∧ S2 0 0 3 = h 0 0 3 := by
  obtain ⟨A, ⟨w, p, q⟩, Z, ⟨mode, W, step, per, ch, ca, cb⟩, ⟨o, acc, hits, dir⟩, T⟩ := s
  obtain ⟨k1, k2, k3, k4, k5, k7, k8, k9, k14, ⟨k15, k15b⟩, k16⟩ := ho
  obtain ⟨s1, s2, s3, s4, s5, s6, s7⟩ := hR
  obtain ⟨g7, a1, a2⟩ := cp7 (g := S 2) s1 c1
  obtain ⟨g5, b1, b2⟩ := cp5 (g := S 3) k3 s2
  obtain ⟨e, he, t1, t2, t3⟩ := s4
  have hq : f8_copyFrom h S = some (va_up (va_up (va_up (va_up (va_up (va_up S 2 g7) 3 g5) 1 (va_up (S 1) 0 (upd (upd (upd (S 1 0) 3 (h 1 0 3)) 4 (h 1 0 4)) 5 (h 1 0 5)))) 4 (va_up (va_up (S 4) 1 (va_cpy (h 4 1) (S 4 1) 0 0 300)) 0 (upd (upd (S 4 0) 1 (h 4 0 1)) 2 (h 4 0 2)))) 5 (va_up (S 5) 0 (upd (upd (upd (upd (upd (upd (S 5 0) 0 (h 5 0 0)) 1 (h 5 0 1)) 2 (h 5 0 2)) 3 (h 5 0 3)) 4 (h 5 0 4)) 5 (h 5 0 5)))) 0 (va_up (S 0) 0 (upd (upd (S 0 0) 3 (h 0 0 3)) 4 (h 0 0 4)))) := by
    unfold f8_copyFrom f0_copyFrom f9_copyFrom f1_copyFrom
    rw [a1]
    simp (disch := omega) only [bd_e, st_e, up_n, b1, up_s, up_x]
  refine ⟨_, hq, ⟨?_, ?_, ?_, ?_, ?_, ?_, ?_⟩, ?_⟩
  · simp (disch := omega) only [up_n, up_s]; exact a2
  · simp (disch := omega) only [up_n, up_s]; exact b2
  · simp (disch := omega) only [up_n, up_s]
    refine ⟨?_, ?_, ?_, ?_⟩
    · simp (disch := omega) only [ud_n]; exact c2
    · simp (disch := omega) only [ud_n, ud_s]; exact s3.2.1
    · simp (disch := omega) only [ud_n, ud_s]; exact s3.2.2.1
    · simp (disch := omega) only [ud_n, ud_s]; exact s3.2.2.2
  · simp (disch := omega) only [up_n, up_s]
    refine ⟨e, he, ?_, ?_, fun i hi => ?_⟩
    · simp (disch := omega) only [up_s, ud_n, ud_s]; exact t1
    · simp (disch := omega) only [up_s, ud_n, ud_s]; exact t2
    · simp (disch := omega) only [up_n, up_s]
      rw [cp_i (Nat.mod_lt _ (by decide))]; exact t3 i hi
  · simp (disch := omega) only [up_n, up_s]
    refine ⟨?_, ?_, ?_, ?_, ?_, ?_⟩
    · simp (disch := omega) only [ud_n, ud_s]; exact s5.1
    · simp (disch := omega) only [ud_n, ud_s]; exact s5.2.1
    · simp (disch := omega) only [ud_n, ud_s]; exact s5.2.2.1
    · simp (disch := omega) only [ud_n, ud_s]; exact s5.2.2.2.1
    · simp (disch := omega) only [ud_n, ud_s]; exact s5.2.2.2.2.1
    · simp (disch := omega) only [ud_n, ud_s]; exact s5.2.2.2.2.2
  · simp (disch := omega) only [up_s, ud_n, ud_s]; exact s6
  · simp (disch := omega) only [up_s, ud_n, ud_s]; exact s7
  · simp (disch := omega) only [up_s, ud_n, ud_s]
theorem up_21 {α : Type} {f : Nat → α} {v : α} : va_up f 2 v 1 = f 1 := up_n (by decide)
theorem up_12 {α : Type} {f : Nat → α} {v : α} : va_up f 1 v 2 = f 2 := up_n (by decide)
theorem pm_savL (g : Sg) {r : Nat} (hr : r < 4) : ∀ (n i : Nat), i ≤ 1805 → 1805 - i < n → f11_save_l14 n (nI r) (nI i) (va_up g 2 (ov (fun j => g 1 (j - 1805 * r)) (1805 * r) i (g 2))) = f11_save_j45 (nI r) (va_up g 2 (ov (fun j => g 1 (j - 1805 * r)) (1805 * r) 1805 (g 2))) := by
  intro n
  induction n with
  | zero => intro i h1 h2; omega
  | succ n ih =>
    intro i h1 h2
    show f11_save_b14 (f11_save_l14 n) _ _ _ = _
    unfold f11_save_b14
    by_cases h : i = 1805
    · subst h
      simp (disch := omega) only [rd_n, ck_n, wr_n, cl_n, st_e, b2_e, bd_e, ltp, lep, eqp, m1p, m1l, m1e, m1a, nI_add, pk_sub, pk_mul, dvp, nzp, up_s, up_x, up_01, if_true, if_false, Nat.not_lt_zero, Nat.zero_add, z_0, z_1, z_2, z_3, z_4, z_5, z_10, z_11, z_15, z_20, z_30, z_63, z_64, z_99, z_100, z_127, z_128, z_200, z_256, z_300, z_400, z_500, z_600, z_601, z_602, z_603, z_604, z_605, z_606, z_862, z_990, z_1000, z_1090, z_1390, z_1393, z_1394, z_1395, z_1396, z_1397, z_1398, z_1399, z_1400, z_1401, z_1402, z_1403, z_1404, z_1405, z_1705, z_1805, z_7220, if_pos (Nat.le_refl 1805)]
    · simp (disch := omega) only [rd_n, ck_n, wr_n, cl_n, st_e, b2_e, bd_e, ltp, lep, eqp, m1p, m1l, m1e, m1a, nI_add, pk_sub, pk_mul, dvp, nzp, up_s, up_x, up_01, if_true, if_false, Nat.not_lt_zero, Nat.zero_add, z_0, z_1, z_2, z_3, z_4, z_5, z_10, z_11, z_15, z_20, z_30, z_63, z_64, z_99, z_100, z_127, z_128, z_200, z_256, z_300, z_400, z_500, z_600, z_601, z_602, z_603, z_604, z_605, z_606, z_862, z_990, z_1000, z_1090, z_1390, z_1393, z_1394, z_1395, z_1396, z_1397, z_1398, z_1399, z_1400, z_1401, z_1402, z_1403, z_1404, z_1405, z_1705, z_1805, z_7220, if_neg (show ¬ 1805 ≤ i by omega), up_21]
      rw [ov_s (show g 1 i = g 1 (1805 * r + i - 1805 * r) by rw [show 1805 * r + i - 1805 * r = i by omega])]
      exact ih (i + 1) (by omega) (by omega)
theorem pm_loaL (g : Sg) {r : Nat} (hr : r < 4) : ∀ (n i : Nat), i ≤ 1805 → 1805 - i < n → f11_load_l25 n (nI r) (nI i) (va_up g 1 (ov (fun j => g 2 (1805 * r + j)) 0 i (g 1))) = f11_load_j56 (va_up g 1 (ov (fun j => g 2 (1805 * r + j)) 0 1805 (g 1))) := by
  intro n
  induction n with
  | zero => intro i h1 h2; omega
  | succ n ih =>
    intro i h1 h2
    show f11_load_b25 (f11_load_l25 n) _ _ _ = _
    unfold f11_load_b25
    by_cases h : i = 1805
    · subst h
      simp (disch := omega) only [rd_n, ck_n, wr_n, cl_n, st_e, b2_e, bd_e, ltp, lep, eqp, m1p, m1l, m1e, m1a, nI_add, pk_sub, pk_mul, dvp, nzp, up_s, up_x, up_01, if_true, if_false, Nat.not_lt_zero, Nat.zero_add, z_0, z_1, z_2, z_3, z_4, z_5, z_10, z_11, z_15, z_20, z_30, z_63, z_64, z_99, z_100, z_127, z_128, z_200, z_256, z_300, z_400, z_500, z_600, z_601, z_602, z_603, z_604, z_605, z_606, z_862, z_990, z_1000, z_1090, z_1390, z_1393, z_1394, z_1395, z_1396, z_1397, z_1398, z_1399, z_1400, z_1401, z_1402, z_1403, z_1404, z_1405, z_1705, z_1805, z_7220, if_pos (Nat.le_refl 1805)]
    · simp (disch := omega) only [rd_n, ck_n, wr_n, cl_n, st_e, b2_e, bd_e, ltp, lep, eqp, m1p, m1l, m1e, m1a, nI_add, pk_sub, pk_mul, dvp, nzp, up_s, up_x, up_01, if_true, if_false, Nat.not_lt_zero, Nat.zero_add, z_0, z_1, z_2, z_3, z_4, z_5, z_10, z_11, z_15, z_20, z_30, z_63, z_64, z_99, z_100, z_127, z_128, z_200, z_256, z_300, z_400, z_500, z_600, z_601, z_602, z_603, z_604, z_605, z_606, z_862, z_990, z_1000, z_1090, z_1390, z_1393, z_1394, z_1395, z_1396, z_1397, z_1398, z_1399, z_1400, z_1401, z_1402, z_1403, z_1404, z_1405, z_1705, z_1805, z_7220, if_neg (show ¬ 1805 ≤ i by omega), up_12]
      have e := ov_s (z := fun j => g 2 (1805 * r + j)) (x := g 1) (b := 0) (n := i) (v := g 2 (1805 * r + i)) (by rw [Nat.zero_add])
      rw [Nat.zero_add] at e
      rw [e]
      exact ih (i + 1) (by omega) (by omega)
/-- what a save leaves of the reference -/
def svG (g : Sg) (r : Nat) : Sg := va_up (va_up g 2 (ov (fun j => g 1 (j - 1805 * r)) (1805 * r) 1805 (g 2))) 3 (upd (g 3) r (nI 1))
theorem pm_save {g : Sg} {r : Nat} (hr : r < 4) : f11_save (nI r) g = some (g 1 1397, svG g r) := by
  have h := pm_savL g hr NF 0 (by omega) (by decide)
  rw [ov_0, show va_up g 2 (g 2) = g from up_id _ _] at h
  unfold f11_save f11_in
  simp (disch := omega) only [rd_n, ck_n, wr_n, cl_n, st_e, b2_e, bd_e, ltp, lep, eqp, m1p, m1l, m1e, m1a, nI_add, pk_sub, pk_mul, dvp, nzp, up_s, up_x, up_01, if_true, if_false, Nat.not_lt_zero, Nat.zero_add, z_0, z_1, z_2, z_3, z_4, z_5, z_10, z_11, z_15, z_20, z_30, z_63, z_64, z_99, z_100, z_127, z_128, z_200, z_256, z_300, z_400, z_500, z_600, z_601, z_602, z_603, z_604, z_605, z_606, z_862, z_990, z_1000, z_1090, z_1390, z_1393, z_1394, z_1395, z_1396, z_1397, z_1398, z_1399, z_1400, z_1401, z_1402, z_1403, z_1404, z_1405, z_1705, z_1805, z_7220, if_neg (show ¬ 3 < r by omega)]
  rw [if_neg (show ¬ (1 : Nat) = 0 by decide)]
  rw [h]
  unfold f11_save_j45
  simp (disch := omega) only [rd_n, ck_n, wr_n, cl_n, st_e, b2_e, bd_e, ltp, lep, eqp, m1p, m1l, m1e, m1a, nI_add, pk_sub, pk_mul, dvp, nzp, up_s, up_x, up_01, if_true, if_false, Nat.not_lt_zero, Nat.zero_add, z_0, z_1, z_2, z_3, z_4, z_5, z_10, z_11, z_15, z_20, z_30, z_63, z_64, z_99, z_100, z_127, z_128, z_200, z_256, z_300, z_400, z_500, z_600, z_601, z_602, z_603, z_604, z_605, z_606, z_862, z_990, z_1000, z_1090, z_1390, z_1393, z_1394, z_1395, z_1396, z_1397, z_1398, z_1399, z_1400, z_1401, z_1402, z_1403, z_1404, z_1405, z_1705, z_1805, z_7220]
  rw [up_n (show (1 : Nat) ≠ 3 by decide), up_n (show (3 : Nat) ≠ 2 by decide), up_21]
  rfl
theorem pm_load {g : Sg} {r : Nat} (hr : r < 4) (h1 : g 3 r = nI 1) : f11_load (nI r) g = some (g 2 (1805 * r + 1397), va_up g 1 (ov (fun j => g 2 (1805 * r + j)) 0 1805 (g 1))) := by
  have h := pm_loaL g hr NF 0 (by omega) (by decide)
  rw [ov_0, show va_up g 1 (g 1) = g from up_id _ _] at h
  unfold f11_load f11_in
  simp (disch := omega) only [rd_n, ck_n, wr_n, cl_n, st_e, b2_e, bd_e, ltp, lep, eqp, m1p, m1l, m1e, m1a, nI_add, pk_sub, pk_mul, dvp, nzp, up_s, up_x, up_01, if_true, if_false, Nat.not_lt_zero, Nat.zero_add, z_0, z_1, z_2, z_3, z_4, z_5, z_10, z_11, z_15, z_20, z_30, z_63, z_64, z_99, z_100, z_127, z_128, z_200, z_256, z_300, z_400, z_500, z_600, z_601, z_602, z_603, z_604, z_605, z_606, z_862, z_990, z_1000, z_1090, z_1390, z_1393, z_1394, z_1395, z_1396, z_1397, z_1398, z_1399, z_1400, z_1401, z_1402, z_1403, z_1404, z_1405, z_1705, z_1805, z_7220, if_neg (show ¬ 3 < r by omega), h1]
  rw [if_neg (show ¬ (1 : Nat) = 0 by decide), if_neg (show ¬ (1 : Nat) = 0 by decide)]
  rw [h]
  unfold f11_load_j56
  simp (disch := omega) only [rd_n, ck_n, wr_n, cl_n, st_e, b2_e, bd_e, ltp, lep, eqp, m1p, m1l, m1e, m1a, nI_add, pk_sub, pk_mul, dvp, nzp, up_s, up_x, up_01, if_true, if_false, Nat.not_lt_zero, Nat.zero_add, z_0, z_1, z_2, z_3, z_4, z_5, z_10, z_11, z_15, z_20, z_30, z_63, z_64, z_99, z_100, z_127, z_128, z_200, z_256, z_300, z_400, z_500, z_600, z_601, z_602, z_603, z_604, z_605, z_606, z_862, z_990, z_1000, z_1090, z_1390, z_1393, z_1394, z_1395, z_1396, z_1397, z_1398, z_1399, z_1400, z_1401, z_1402, z_1403, z_1404, z_1405, z_1705, z_1805, z_7220]
  rw [ov_in (by omega) (by omega)]
theorem pm_load0 {g : Sg} {r : Nat} (hr : r < 4) (h1 : g 3 r = nI 0) : f11_load (nI r) g = some (-1, g) := by
  unfold f11_load f11_in
  simp (disch := omega) only [rd_n, ck_n, wr_n, cl_n, st_e, b2_e, bd_e, ltp, lep, eqp, m1p, m1l, m1e, m1a, nI_add, pk_sub, pk_mul, dvp, nzp, up_s, up_x, up_01, if_true, if_false, Nat.not_lt_zero, Nat.zero_add, z_0, z_1, z_2, z_3, z_4, z_5, z_10, z_11, z_15, z_20, z_30, z_63, z_64, z_99, z_100, z_127, z_128, z_200, z_256, z_300, z_400, z_500, z_600, z_601, z_602, z_603, z_604, z_605, z_606, z_862, z_990, z_1000, z_1090, z_1390, z_1393, z_1394, z_1395, z_1396, z_1397, z_1398, z_1399, z_1400, z_1401, z_1402, z_1403, z_1404, z_1405, z_1705, z_1805, z_7220, if_neg (show ¬ 3 < r by omega), h1]
  rw [if_neg (show ¬ (1 : Nat) = 0 by decide)]
theorem sim_load : Sim_load Rel := by
  intro M a h
  have hno := rel_no h
  obtain ⟨D, C, s, sv, K, h⟩ := h
  unfold f10_load
  rcases in_c a 4 (by omega) with ⟨e1, e2⟩ | ⟨r, hr, rfl, e2⟩
  · have e2 : f11_in a 0 3 = some 0 := e2
    refine ⟨-2, M, M 7 0, ?_, rfl, by unfold f11_load; rw [e2]; rfl, hno⟩
    by_cases h0 : a < 0
    · exact if_pos h0
    · rw [if_neg h0]; exact if_neg (Int32.not_lt.mpr (e1.resolve_left h0))
  rw [if_neg (show ¬ nI r < 0 by rw [z_0, ltp (by omega) (by omega)]; omega), if_pos (show nI r < 4 by rw [z_4, ltp (by omega) (by omega)]; omega), ck_n hr (by omega), ck_n hr (by omega), cl_n (by omega)]
  rcases h.2.2.2.2.2.1 r hr with ⟨b1, b2, b3, b4, b5⟩ | ⟨b1, b2⟩
  · have hS := h.2.2.1
    obtain ⟨S2, c1, c2, c3⟩ := cp8 (S := M 0) b3 b4 (by
      obtain ⟨A, ⟨w, p, q⟩, Z, ⟨mode, W, step, per, ch, ca, cb⟩, ⟨o, acc, hits, dir⟩, T⟩ := s
      exact hS.1.1) (by
      obtain ⟨A, ⟨w, p, q⟩, Z, ⟨mode, W, step, per, ch, ca, cb⟩, ⟨o, acc, hits, dir⟩, T⟩ := s
      exact hS.2.2.1.1)
    have hx : RX D C (sv r) (ov (fun j => M 7 0 2 (1805 * r + j)) 0 1805 (M 7 0 1)) := RX.cg b3 b5 (fun j hj => ov_in (by omega) (by omega))
    refine ⟨M 7 0 2 (1805 * r + 1397), va_up M 0 S2, _, ?_, by rw [up_n (by decide)], by rw [m_0]; exact pm_load hr b2, D, C, sv r, sv, K, rel_st h b3 c2 hx⟩
    rw [if_pos b1, c1]
    show some (va_up M 0 S2 0 0 0 3, va_up M 0 S2) = _
    rw [up_s, c3]
    generalize hs : sv r = s2 at b3 b4 b5
    obtain ⟨A, ⟨w, p, q⟩, Z, ⟨mode, W, step, per, ch, ca, cb⟩, ⟨o, acc, hits, dir⟩, T⟩ := s2
    rw [b4.2.2.2.2.2.1]
    have := b5.2.2.2.2.2.1.1
    rw [← this]
  · refine ⟨-1, M, M 7 0, if_neg b1, rfl, pm_load0 hr b2, hno⟩
theorem rel_sv {D C r : Nat} {s : AS} {sv : Nat → AS} {K : List Nat} {M N : Me} {S2 : Ob} (hr : r < 4) (h : RelA D C s sv K M) (b : RS D C s S2) (e0 : N 0 = M 0) (e5 : N 5 = M 5) (e6 : N 6 0 0 = M 6 0 0) (er : N (r + 1) = S2) (en : ∀ q, q < 4 → q ≠ r → N (q + 1) = M (q + 1)) (f1 : N 6 0 1 r = 1) (fn : ∀ q, q < 4 → q ≠ r → N 6 0 1 q = M 6 0 1 q) (e7 : N 7 0 = svG (M 7 0) r) : Rel N := by
  obtain ⟨h1, h2, h3, h4, h5, h6, h7, h8⟩ := h
  have g0 : svG (M 7 0) r 0 = M 7 0 0 := by unfold svG; rw [up_n (by decide), up_n (by decide)]
  have g1 : svG (M 7 0) r 1 = M 7 0 1 := by unfold svG; rw [up_n (by decide), up_n (by decide)]
  have g4 : svG (M 7 0) r 4 = M 7 0 4 := by unfold svG; rw [up_n (by decide), up_n (by decide)]
  have g2 : svG (M 7 0) r 2 = ov (fun j => M 7 0 1 (j - 1805 * r)) (1805 * r) 1805 (M 7 0 2) := by unfold svG; rw [up_n (by decide), up_s]
  have g3 : svG (M 7 0) r 3 = upd (M 7 0 3) r (nI 1) := by unfold svG; rw [up_s]
  refine ⟨D, C, s, (fun q => if q = r then s else sv q), K, h1, h2, ?_, ?_, ?_, ?_, ?_, ?_⟩
  · rw [e0]; exact h3
  · rw [e7, g1]; exact h4
  · rw [e6, e7, g0]; exact h5
  · intro q hq
    show (N 6 0 1 q = 1 ∧ N 7 0 3 q = nI 1 ∧ okS D C (if q = r then s else sv q) ∧ RS D C (if q = r then s else sv q) (N (q + 1)) ∧ RX D C (if q = r then s else sv q) (fun j => N 7 0 2 (1805 * q + j))) ∨ _
    by_cases e : q = r
    · subst e
      rw [if_pos rfl]
      refine Or.inl ⟨f1, by rw [e7, g3, ud_s], h2, by rw [er]; exact b, ?_⟩
      refine RX.cg h2 h4 (fun j hj => ?_)
      show N 7 0 2 (1805 * q + j) = _
      rw [e7, g2, ov_in (by omega) (by omega), show 1805 * q + j - 1805 * q = j by omega]
    · rw [if_neg e]
      rcases h6 q hq with ⟨b1, b2, b3, b4, b5⟩ | ⟨b1, b2⟩
      · refine Or.inl ⟨by rw [fn q hq e]; exact b1, by rw [e7, g3, ud_n e]; exact b2, b3, by rw [en q hq e]; exact b4, ?_⟩
        refine RX.cg b3 b5 (fun j hj => ?_)
        show N 7 0 2 (1805 * q + j) = _
        rw [e7, g2, ov_o (by omega)]
      · exact Or.inr ⟨by rw [fn q hq e]; exact b1, by rw [e7, g3, ud_n e]; exact b2⟩
  · rw [e5, e7]; exact h7.fr g0 g4
  · rw [e5]; exact h8
