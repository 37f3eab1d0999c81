/-! the reference's sketch; x: its row of numbers -/
def RN (A : AK) (x : Nat → Int32) : Prop := (∀ r k, r < 4 → k < 100 → x (100 * r + k) = nI (kP A r k)) ∧ (∀ w k, w < 2 → k < 100 → x (400 + 100 * w + k) = nI (kD A w k)) ∧ x 600 = nI (kS A 0) ∧ x 601 = nI (kS A 1) ∧ x 602 = nI (kS A 2) ∧ (∀ r c, r < 4 → c < 64 → x (606 + 64 * r + c) = nI (kC A r c)) ∧ (∀ b, b < 128 → x (862 + b) = nI (kB A b)) ∧ x 1395 = nI (kS A 3) ∧ x 1396 = kG A
def RT (D : Nat) (A : AK) (x : Nat → Int32) : Prop := ∀ k, k < 100 → ∃ t, x (1705 + k) = nI t ∧ t ≤ kS A 3 ∧ min 15 t ≤ est D A k
/-- what counting leaves as it was -/
def KF (x y : Nat → Int32) : Prop := ∀ j, (j < 606 ∨ (990 ≤ j ∧ j < 1395) ∨ (1397 ≤ j ∧ j < 1705)) → y j = x j
theorem pm_cell {A : AK} {g : Sg} (hR : RN A (g 1)) {r k : Nat} (hr : r < 4) (hk : k < 100) : f11_cell g (nI r) (nI k) = some (nI (606 + 64 * r + kP A r k)) := by
  unfold f11_cell
  have h := hR.1 r k hr hk
  simp (disch := omega) only [rd_n, ck_n, wr_n, cl_n, st_e, b2_e, bd_e, ltp, lep, eqp, m1p, m1l, m1e, m1a, nI_add, pk_sub, pk_mul, dvp, nzp, up_s, up_x, up_01, if_true, if_false, Nat.not_lt_zero, Nat.zero_add, z_0, z_1, z_2, z_3, z_4, z_5, z_10, z_11, z_15, z_20, z_30, z_63, z_64, z_99, z_100, z_127, z_128, z_200, z_256, z_300, z_400, z_500, z_600, z_601, z_602, z_603, z_604, z_605, z_606, z_862, z_990, z_1000, z_1090, z_1390, z_1393, z_1394, z_1395, z_1396, z_1397, z_1398, z_1399, z_1400, z_1401, z_1402, z_1403, z_1404, z_1405, z_1705, z_1805, z_7220, Nat.zero_add, h]
theorem pm_thr {D : Nat} {A : AK} {g : Sg} (hA : okK D A) (hR : RN A (g 1)) {k : Nat} (hk : k < 100) : f11_isThrough g (nI k) = some (if thr A k = true then 1 else 0) := by
  obtain ⟨-, -, -, hd, -, -, hb1, -⟩ := hA
  obtain ⟨-, h4, -, -, -, -, h8, -⟩ := hR
  have hd0 := hd 0 k (by decide) hk
  have hd1 := hd 1 k (by decide) hk
  have c0 := hb1 _ hd0
  have c1 := hb1 _ hd1
  have e0 : g 1 (400 + k) = nI (kD A 0 k) := h4 0 k (by decide) hk
  have e1 : g 1 (500 + k) = nI (kD A 1 k) := h4 1 k (by decide) hk
  unfold f11_isThrough
  simp (disch := omega) only [rd_n, ck_n, wr_n, cl_n, st_e, b2_e, bd_e, ltp, lep, eqp, m1p, m1l, m1e, m1a, nI_add, pk_sub, pk_mul, dvp, nzp, up_s, up_x, up_01, if_true, if_false, Nat.not_lt_zero, Nat.zero_add, z_0, z_1, z_2, z_3, z_4, z_5, z_10, z_11, z_15, z_20, z_30, z_63, z_64, z_99, z_100, z_127, z_128, z_200, z_256, z_300, z_400, z_500, z_600, z_601, z_602, z_603, z_604, z_605, z_606, z_862, z_990, z_1000, z_1090, z_1390, z_1393, z_1394, z_1395, z_1396, z_1397, z_1398, z_1399, z_1400, z_1401, z_1402, z_1403, z_1404, z_1405, z_1705, z_1805, z_7220, e0, e1, h8 _ hd0, h8 _ hd1]
  unfold thr
  by_cases q0 : kB A (kD A 0 k) = 1
  · by_cases q1 : kB A (kD A 1 k) = 1
    · simp [q0, q1]
    · simp [q0, q1]
  · simp [q0]
theorem pm_sm {D : Nat} {A : AK} {g : Sg} (hA : okK D A) (h0 : g 0 0 = nI D) (hR : RN A (g 1)) {k : Nat} (hk : k < 100) : f11_smallest g (nI k) = some (nI (mnr A k D)) := by
  have hA0 := hA
  obtain ⟨hD1, hD4, hp, -, hc, -⟩ := hA
  have H : ∀ (n r m : Nat), 1 ≤ r → r ≤ D → D - r < n → m = mnr A k r → f11_smallest_l5 g n (nI k) (nI m) (nI r) = some (nI (mnr A k D)) := by
    intro n
    induction n with
    | zero => intro r m h1 h2 h3; omega
    | succ n ih =>
      intro r m hr1 h1 h2 hm
      show f11_smallest_b5 g (f11_smallest_l5 g n) (nI k) (nI m) (nI r) = _
      unfold f11_smallest_b5
      have hml := mnr_le A k r
      by_cases hr : D ≤ r
      · simp (disch := omega) only [rd_n, ck_n, wr_n, cl_n, st_e, b2_e, bd_e, ltp, lep, eqp, m1p, m1l, m1e, m1a, nI_add, pk_sub, pk_mul, dvp, nzp, up_s, up_x, up_01, if_true, if_false, Nat.not_lt_zero, Nat.zero_add, z_0, z_1, z_2, z_3, z_4, z_5, z_10, z_11, z_15, z_20, z_30, z_63, z_64, z_99, z_100, z_127, z_128, z_200, z_256, z_300, z_400, z_500, z_600, z_601, z_602, z_603, z_604, z_605, z_606, z_862, z_990, z_1000, z_1090, z_1390, z_1393, z_1394, z_1395, z_1396, z_1397, z_1398, z_1399, z_1400, z_1401, z_1402, z_1403, z_1404, z_1405, z_1705, z_1805, z_7220, h0, if_pos hr]
        rw [hm, show r = D by omega]
      · have hpl := hp r k (by omega) hk
        have hcl := hc r _ (show r < 4 by omega) hpl
        simp (disch := omega) only [rd_n, ck_n, wr_n, cl_n, st_e, b2_e, bd_e, ltp, lep, eqp, m1p, m1l, m1e, m1a, nI_add, pk_sub, pk_mul, dvp, nzp, up_s, up_x, up_01, if_true, if_false, Nat.not_lt_zero, Nat.zero_add, z_0, z_1, z_2, z_3, z_4, z_5, z_10, z_11, z_15, z_20, z_30, z_63, z_64, z_99, z_100, z_127, z_128, z_200, z_256, z_300, z_400, z_500, z_600, z_601, z_602, z_603, z_604, z_605, z_606, z_862, z_990, z_1000, z_1090, z_1390, z_1393, z_1394, z_1395, z_1396, z_1397, z_1398, z_1399, z_1400, z_1401, z_1402, z_1403, z_1404, z_1405, z_1705, z_1805, z_7220, h0, if_neg hr, pm_cell hR (show r < 4 by omega) hk, hR.2.2.2.2.2.1 r _ (show r < 4 by omega) hpl]
        by_cases hle : m ≤ kC A r (kP A r k)
        · rw [if_pos hle]
          exact ih (r + 1) m (by omega) (by omega) (by omega) (by show m = min (kC A r (kP A r k)) (mnr A k r); omega)
        · rw [if_neg hle]
          exact ih (r + 1) _ (by omega) (by omega) (by omega) (by show _ = min (kC A r (kP A r k)) (mnr A k r); omega)
  have hpl := hp 0 k (by omega) hk
  have hcl := hc 0 _ (by decide) hpl
  show f11_smallest_b5 g (f11_smallest_l5 g 7999) (nI k) (nI 99) (nI 0) = _
  unfold f11_smallest_b5
  simp (disch := omega) only [rd_n, ck_n, wr_n, cl_n, st_e, b2_e, bd_e, ltp, lep, eqp, m1p, m1l, m1e, m1a, nI_add, pk_sub, pk_mul, dvp, nzp, up_s, up_x, up_01, if_true, if_false, Nat.not_lt_zero, Nat.zero_add, z_0, z_1, z_2, z_3, z_4, z_5, z_10, z_11, z_15, z_20, z_30, z_63, z_64, z_99, z_100, z_127, z_128, z_200, z_256, z_300, z_400, z_500, z_600, z_601, z_602, z_603, z_604, z_605, z_606, z_862, z_990, z_1000, z_1090, z_1390, z_1393, z_1394, z_1395, z_1396, z_1397, z_1398, z_1399, z_1400, z_1401, z_1402, z_1403, z_1404, z_1405, z_1705, z_1805, z_7220, h0, if_neg (show ¬ D ≤ 0 by omega), pm_cell hR (show 0 < 4 by decide) hk, hR.2.2.2.2.2.1 0 _ (by decide) hpl, if_neg (show ¬ 99 ≤ kC A 0 (kP A 0 k) by omega)]
  exact H 7999 1 _ (by decide) (by omega) (by omega) (by show _ = min (kC A 0 (kP A 0 k)) 15; omega)
theorem pm_est {D : Nat} {A : AK} {g : Sg} (hA : okK D A) (h0 : g 0 0 = nI D) (hR : RN A (g 1)) {k : Nat} (hk : k < 100) : f11_estimated g (nI k) = some (nI (est D A k)) := by
  have hs0 := hA.2.2.2.2.2.2.2.1
  unfold f11_estimated
  simp (disch := omega) only [rd_n, ck_n, wr_n, cl_n, st_e, b2_e, bd_e, ltp, lep, eqp, m1p, m1l, m1e, m1a, nI_add, pk_sub, pk_mul, dvp, nzp, up_s, up_x, up_01, if_true, if_false, Nat.not_lt_zero, Nat.zero_add, z_0, z_1, z_2, z_3, z_4, z_5, z_10, z_11, z_15, z_20, z_30, z_63, z_64, z_99, z_100, z_127, z_128, z_200, z_256, z_300, z_400, z_500, z_600, z_601, z_602, z_603, z_604, z_605, z_606, z_862, z_990, z_1000, z_1090, z_1390, z_1393, z_1394, z_1395, z_1396, z_1397, z_1398, z_1399, z_1400, z_1401, z_1402, z_1403, z_1404, z_1405, z_1705, z_1805, z_7220, pm_sm hA h0 hR hk, hR.2.2.1, pm_thr hA hR hk]
  unfold est
  by_cases q0 : kS A 0 = 1
  · by_cases q1 : thr A k = true
    · simp [q0, q1]
      exact fun h => absurd h (by decide)
    · simp [q0, q1]
  · simp [q0]
/-! a stretch of a row written over -/
def ov (z : Nat → Int32) (b n : Nat) (x : Nat → Int32) : Nat → Int32 := fun j => if b ≤ j ∧ j < b + n then z j else x j
theorem ov_0 {z x : Nat → Int32} {b : Nat} : ov z b 0 x = x := by
  funext j
  exact if_neg (by omega)
theorem ov_in {z x : Nat → Int32} {b n j : Nat} (h : b ≤ j) (h2 : j < b + n) : ov z b n x j = z j := if_pos ⟨h, h2⟩
theorem ov_lt {z x : Nat → Int32} {b n j : Nat} (h : j < b) : ov z b n x j = x j := if_neg (by omega)
theorem ov_ge {z x : Nat → Int32} {b n j : Nat} (h : b + n ≤ j) : ov z b n x j = x j := if_neg (by omega)
theorem ov_o {z x : Nat → Int32} {b n j : Nat} (h : j < b ∨ b + n ≤ j) : ov z b n x j = x j := if_neg (by omega)
theorem ov_s {z x : Nat → Int32} {b n : Nat} {v : Int32} (hv : v = z (b + n)) : upd (ov z b n x) (b + n) v = ov z b (n + 1) x := by
  funext j
  subst hv
  by_cases h : j = b + n
  · subst h
    rw [ud_s, ov_in (by omega) (by omega)]
  · rw [ud_n h]
    by_cases h2 : b ≤ j ∧ j < b + n
    · rw [ov_in h2.1 h2.2, ov_in h2.1 (by omega)]
    · rw [ov_o (by omega), ov_o (by omega)]
/-- the reference forgets how often keys were added -/
theorem pm_forgetL (g : Sg) (x : Nat → Int32) : ∀ (n i : Nat), i ≤ 100 → 100 - i < n → f11_forgetTimes_l2 n (nI i) (va_up g 1 (ov (fun _ => nI 0) 1705 i x)) = some (va_up g 1 (ov (fun _ => nI 0) 1705 100 x)) := by
  intro n
  induction n with
  | zero => intro i h1 h2; omega
  | succ n ih =>
    intro i h1 h2
    show f11_forgetTimes_b2 (f11_forgetTimes_l2 n) (nI i) _ = _
    unfold f11_forgetTimes_b2
    by_cases hi : 100 ≤ i
    · simp (disch := omega) only [rd_n, ck_n, wr_n, cl_n, st_e, b2_e, bd_e, ltp, lep, eqp, m1p, m1l, m1e, m1a, nI_add, pk_sub, pk_mul, dvp, nzp, up_s, up_x, up_01, if_true, if_false, Nat.not_lt_zero, Nat.zero_add, z_0, z_1, z_2, z_3, z_4, z_5, z_10, z_11, z_15, z_20, z_30, z_63, z_64, z_99, z_100, z_127, z_128, z_200, z_256, z_300, z_400, z_500, z_600, z_601, z_602, z_603, z_604, z_605, z_606, z_862, z_990, z_1000, z_1090, z_1390, z_1393, z_1394, z_1395, z_1396, z_1397, z_1398, z_1399, z_1400, z_1401, z_1402, z_1403, z_1404, z_1405, z_1705, z_1805, z_7220, if_pos hi]
      rw [show i = 100 by omega]
    · simp (disch := omega) only [rd_n, ck_n, wr_n, cl_n, st_e, b2_e, bd_e, ltp, lep, eqp, m1p, m1l, m1e, m1a, nI_add, pk_sub, pk_mul, dvp, nzp, up_s, up_x, up_01, if_true, if_false, Nat.not_lt_zero, Nat.zero_add, z_0, z_1, z_2, z_3, z_4, z_5, z_10, z_11, z_15, z_20, z_30, z_63, z_64, z_99, z_100, z_127, z_128, z_200, z_256, z_300, z_400, z_500, z_600, z_601, z_602, z_603, z_604, z_605, z_606, z_862, z_990, z_1000, z_1090, z_1390, z_1393, z_1394, z_1395, z_1396, z_1397, z_1398, z_1399, z_1400, z_1401, z_1402, z_1403, z_1404, z_1405, z_1705, z_1805, z_7220, if_neg hi]
      rw [ov_s rfl]
      exact ih (i + 1) (by omega) (by omega)
theorem pm_forget (g : Sg) (x : Nat → Int32) : f11_forgetTimes (va_up g 1 x) = some (va_up g 1 (ov (fun _ => nI 0) 1705 100 x)) := by
  have h := pm_forgetL g x NF 0 (by decide) (by decide)
  rw [ov_0] at h
  exact h
