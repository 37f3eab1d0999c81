/-! the reference counts a key -/
theorem pm_bits (g : Sg) (x : Nat → Int32) : ∀ (n i : Nat), i ≤ 128 → 128 - i < n → f11_count_l214 n (nI i) (va_up g 1 (ov (fun _ => nI 0) 862 i x)) = f11_count_j238 (va_up g 1 (ov (fun _ => nI 0) 862 128 x)) := by
  intro n
  induction n with
  | zero => intro i h1 h2; omega
  | succ n ih =>
    intro i h1 h2
    show f11_count_b214 (f11_count_l214 n) (nI i) _ = _
    unfold f11_count_b214
    by_cases hi : 128 ≤ i
    · simp (disch := omega) only [rd_n, ck_n, wr_n, cl_n, st_e, b2_e, bd_e, ltp, lep, eqp, m1p, m1l, m1e, m1a, nI_add, pk_sub, pk_mul, dvp, nzp, up_s, up_x, up_01, if_true, if_false, Nat.not_lt_zero, Nat.zero_add, z_0, z_1, z_2, z_3, z_4, z_5, z_10, z_11, z_15, z_20, z_30, z_63, z_64, z_99, z_100, z_127, z_128, z_200, z_256, z_300, z_400, z_500, z_600, z_601, z_602, z_603, z_604, z_605, z_606, z_862, z_990, z_1000, z_1090, z_1390, z_1393, z_1394, z_1395, z_1396, z_1397, z_1398, z_1399, z_1400, z_1401, z_1402, z_1403, z_1404, z_1405, z_1705, z_1805, z_7220, if_pos hi]
      rw [show i = 128 by omega]
    · simp (disch := omega) only [rd_n, ck_n, wr_n, cl_n, st_e, b2_e, bd_e, ltp, lep, eqp, m1p, m1l, m1e, m1a, nI_add, pk_sub, pk_mul, dvp, nzp, up_s, up_x, up_01, if_true, if_false, Nat.not_lt_zero, Nat.zero_add, z_0, z_1, z_2, z_3, z_4, z_5, z_10, z_11, z_15, z_20, z_30, z_63, z_64, z_99, z_100, z_127, z_128, z_200, z_256, z_300, z_400, z_500, z_600, z_601, z_602, z_603, z_604, z_605, z_606, z_862, z_990, z_1000, z_1090, z_1390, z_1393, z_1394, z_1395, z_1396, z_1397, z_1398, z_1399, z_1400, z_1401, z_1402, z_1403, z_1404, z_1405, z_1705, z_1805, z_7220, if_neg hi]
      rw [ov_s rfl]
      exact ih (i + 1) (by omega) (by omega)
theorem pm_halve (g : Sg) (x : Nat → Int32) : ∀ (n i : Nat), i ≤ 256 → 256 - i < n → f11_count_l185 n (nI i) (va_up g 1 (ov (fun j => x j / nI 2) 606 i x)) = f11_count_j212 (va_up g 1 (ov (fun j => x j / nI 2) 606 256 x)) := by
  intro n
  induction n with
  | zero => intro i h1 h2; omega
  | succ n ih =>
    intro i h1 h2
    show f11_count_b185 (f11_count_l185 n) (nI i) _ = _
    unfold f11_count_b185
    by_cases hi : 256 ≤ i
    · simp (disch := omega) only [rd_n, ck_n, wr_n, cl_n, st_e, b2_e, bd_e, ltp, lep, eqp, m1p, m1l, m1e, m1a, nI_add, pk_sub, pk_mul, dvp, nzp, up_s, up_x, up_01, if_true, if_false, Nat.not_lt_zero, Nat.zero_add, z_0, z_1, z_2, z_3, z_4, z_5, z_10, z_11, z_15, z_20, z_30, z_63, z_64, z_99, z_100, z_127, z_128, z_200, z_256, z_300, z_400, z_500, z_600, z_601, z_602, z_603, z_604, z_605, z_606, z_862, z_990, z_1000, z_1090, z_1390, z_1393, z_1394, z_1395, z_1396, z_1397, z_1398, z_1399, z_1400, z_1401, z_1402, z_1403, z_1404, z_1405, z_1705, z_1805, z_7220, if_pos hi]
      rw [show i = 256 by omega]
    · simp (disch := omega) only [rd_n, ck_n, wr_n, cl_n, st_e, b2_e, bd_e, ltp, lep, eqp, m1p, m1l, m1e, m1a, nI_add, pk_sub, pk_mul, dvp, nzp, up_s, up_x, up_01, if_true, if_false, Nat.not_lt_zero, Nat.zero_add, z_0, z_1, z_2, z_3, z_4, z_5, z_10, z_11, z_15, z_20, z_30, z_63, z_64, z_99, z_100, z_127, z_128, z_200, z_256, z_300, z_400, z_500, z_600, z_601, z_602, z_603, z_604, z_605, z_606, z_862, z_990, z_1000, z_1090, z_1390, z_1393, z_1394, z_1395, z_1396, z_1397, z_1398, z_1399, z_1400, z_1401, z_1402, z_1403, z_1404, z_1405, z_1705, z_1805, z_7220, if_neg hi, ov_ge, Nat.le_refl]
      rw [ov_s rfl]
      exact ih (i + 1) (by omega) (by omega)
def agX (x : Nat → Int32) : Nat → Int32 := ov (fun _ => nI 0) 1705 100 (upd (upd (ov (fun _ => nI 0) 862 128 (ov (fun j => x j / nI 2) 606 256 x)) 1395 (x 602 / nI 2)) 1396 (x 1396 + nI 1))
theorem pm_age (g : Sg) (x : Nat → Int32) : f11_count_l185 NF 0 (va_up g 1 x) = some (va_up g 1 (agX x)) := by
  have h1 := pm_halve g x NF 0 (by decide) (by decide)
  rw [ov_0] at h1
  have h2 := pm_bits g (ov (fun j => x j / nI 2) 606 256 x) NF 0 (by decide) (by decide)
  rw [ov_0] at h2
  refine h1.trans (h2.trans ?_)
  unfold f11_count_j238
  simp (disch := omega) only [rd_n, ck_n, wr_n, cl_n, st_e, b2_e, bd_e, ltp, lep, eqp, m1p, m1l, m1e, m1a, nI_add, pk_sub, pk_mul, dvp, nzp, up_s, up_x, up_01, if_true, if_false, Nat.not_lt_zero, Nat.zero_add, z_0, z_1, z_2, z_3, z_4, z_5, z_10, z_11, z_15, z_20, z_30, z_63, z_64, z_99, z_100, z_127, z_128, z_200, z_256, z_300, z_400, z_500, z_600, z_601, z_602, z_603, z_604, z_605, z_606, z_862, z_990, z_1000, z_1090, z_1390, z_1393, z_1394, z_1395, z_1396, z_1397, z_1398, z_1399, z_1400, z_1401, z_1402, z_1403, z_1404, z_1405, z_1705, z_1805, z_7220, ov_lt, ov_ge, ud_n, pm_forget]
  rfl
theorem pm_endX {D : Nat} {A : AK} {x : Nat → Int32} (hA : okK D A) (hR : RN A x) : RN (ageK A) (agX x) ∧ (∀ j, j < 100 → agX x (1705 + j) = nI 0) ∧ KF x (agX x) := by
  obtain ⟨hD1, hD4, hp, hd, hc, hz, hb1, hs0, hs1, hs2, hs3, hs4⟩ := hA
  obtain ⟨h1, h2, h3, h4, h5, h6, h7, h8, h9⟩ := hR
  have hK : KF x (agX x) := by
    intro j hj
    unfold agX
    rw [ov_o (by omega), ud_n (by omega), ud_n (by omega), ov_o (by omega), ov_o (by omega)]
  refine ⟨⟨fun r k hr hk => ?_, fun w k hw hk => ?_, ?_, ?_, ?_, fun r c hr hc2 => ?_, fun b hb => ?_, ?_, ?_⟩, fun j hj => ?_, hK⟩
  · rw [hK _ (by omega)]; exact h1 r k hr hk
  · rw [hK _ (by omega)]; exact h2 w k hw hk
  · rw [hK _ (by omega)]; exact h3
  · rw [hK _ (by omega)]; exact h4
  · rw [hK _ (by omega)]; exact h5
  · have := hc r c hr hc2
    unfold agX
    rw [ov_o (by omega), ud_n (by omega), ud_n (by omega), ov_o (by omega), ov_in (by omega) (by omega), h6 r c hr hc2, dvp (by omega) (by decide) (by decide)]
    rfl
  · unfold agX
    rw [ov_o (by omega), ud_n (by omega), ud_n (by omega), ov_in (by omega) (by omega)]
    rfl
  · unfold agX
    rw [ov_o (by omega), ud_n (by omega), ud_s, h5, dvp (by omega) (by decide) (by decide)]
    rfl
  · unfold agX
    rw [ov_o (by omega), ud_s, h9]
    rfl
  · unfold agX
    rw [ov_in (by omega) (by omega)]
theorem pm_j164 {D : Nat} {A : AK} {g : Sg} {x : Nat → Int32} (hA : okK D A) (hR : RN A x) (hT : RT D A x) : ∃ y, f11_count_j164 (va_up g 1 x) = some (va_up g 1 y) ∧ RN (endK A) y ∧ RT D (endK A) y ∧ KF x y := by
  have b2 := hA.2.2.2.2.2.2.2.2.2.2.1
  have b3 := hA.2.2.2.2.2.2.2.2.2.2.2
  have h5 := hR.2.2.2.2.1
  have h8 := hR.2.2.2.2.2.2.2.1
  unfold f11_count_j164 endK
  by_cases h : kS A 3 < kS A 2
  · simp (disch := omega) only [rd_n, ck_n, wr_n, cl_n, st_e, b2_e, bd_e, ltp, lep, eqp, m1p, m1l, m1e, m1a, nI_add, pk_sub, pk_mul, dvp, nzp, up_s, up_x, up_01, if_true, if_false, Nat.not_lt_zero, Nat.zero_add, z_0, z_1, z_2, z_3, z_4, z_5, z_10, z_11, z_15, z_20, z_30, z_63, z_64, z_99, z_100, z_127, z_128, z_200, z_256, z_300, z_400, z_500, z_600, z_601, z_602, z_603, z_604, z_605, z_606, z_862, z_990, z_1000, z_1090, z_1390, z_1393, z_1394, z_1395, z_1396, z_1397, z_1398, z_1399, z_1400, z_1401, z_1402, z_1403, z_1404, z_1405, z_1705, z_1805, z_7220, h5, h8, if_pos h]
    exact ⟨x, rfl, hR, hT, fun _ _ => rfl⟩
  · obtain ⟨e1, e2, e3⟩ := pm_endX hA hR
    have e0 := pm_age g x
    rw [z_0] at e0
    simp (disch := omega) only [rd_n, ck_n, wr_n, cl_n, st_e, b2_e, bd_e, ltp, lep, eqp, m1p, m1l, m1e, m1a, nI_add, pk_sub, pk_mul, dvp, nzp, up_s, up_x, up_01, if_true, if_false, Nat.not_lt_zero, Nat.zero_add, z_0, z_1, z_2, z_3, z_4, z_5, z_10, z_11, z_15, z_20, z_30, z_63, z_64, z_99, z_100, z_127, z_128, z_200, z_256, z_300, z_400, z_500, z_600, z_601, z_602, z_603, z_604, z_605, z_606, z_862, z_990, z_1000, z_1090, z_1390, z_1393, z_1394, z_1395, z_1396, z_1397, z_1398, z_1399, z_1400, z_1401, z_1402, z_1403, z_1404, z_1405, z_1705, z_1805, z_7220, h5, h8, if_neg h, e0]
    exact ⟨_, rfl, e1, fun k hk => ⟨0, e2 k hk, Nat.zero_le _, Nat.zero_le _⟩, e3⟩
theorem pm_growL {D k least car : Nat} (g : Sg) (P : Nat → Nat) (hD : D ≤ 4) (hk : k < 100) (hl : least ≤ 15) (hcar : car ≤ 1) (h0 : g 0 0 = nI D) (hp : ∀ r, r < 4 → P r < 64) : ∀ (n r : Nat) (x : Nat → Int32), r ≤ D → D - r < n → x 601 = nI car → (∀ r, r < 4 → x (100 * r + k) = nI (P r)) → (∀ r c, r < 4 → c < 64 → ∃ v, x (606 + 64 * r + c) = nI v ∧ v ≤ 15) →
    ∃ y, f11_count_l97 n (nI k) (nI least) (nI r) (va_up g 1 x) = f11_count_j164 (va_up g 1 y) ∧ (∀ j, (j < 606 ∨ 862 ≤ j) → y j = x j) ∧ ∀ q c v, q < 4 → c < 64 → x (606 + 64 * q + c) = nI v → v ≤ 15 → y (606 + 64 * q + c) = nI (if r ≤ q ∧ q < D ∧ c = P q ∧ v < 15 ∧ (car = 0 ∨ v = least) then v + 1 else v) := by
  intro n
  induction n with
  | zero => intro r x h1 h2; omega
  | succ n ih =>
    intro r x h1 h2 hc0 h10 h6
    show ∃ y, f11_count_b97 (f11_count_l97 n) (nI k) (nI least) (nI r) (va_up g 1 x) = f11_count_j164 (va_up g 1 y) ∧ _
    unfold f11_count_b97
    by_cases hr : D ≤ r
    · simp (disch := omega) only [rd_n, ck_n, wr_n, cl_n, st_e, b2_e, bd_e, ltp, lep, eqp, m1p, m1l, m1e, m1a, nI_add, pk_sub, pk_mul, dvp, nzp, up_s, up_x, up_01, if_true, if_false, Nat.not_lt_zero, Nat.zero_add, z_0, z_1, z_2, z_3, z_4, z_5, z_10, z_11, z_15, z_20, z_30, z_63, z_64, z_99, z_100, z_127, z_128, z_200, z_256, z_300, z_400, z_500, z_600, z_601, z_602, z_603, z_604, z_605, z_606, z_862, z_990, z_1000, z_1090, z_1390, z_1393, z_1394, z_1395, z_1396, z_1397, z_1398, z_1399, z_1400, z_1401, z_1402, z_1403, z_1404, z_1405, z_1705, z_1805, z_7220, h0, if_pos hr]
      refine ⟨x, rfl, fun o _ => rfl, fun q c v hq hc hv _ => ?_⟩
      rw [hv, if_neg (by omega)]
    · have hP := hp r (by omega)
      obtain ⟨w, hw, hw15⟩ := h6 r (P r) (by omega) hP
      have hcell : f11_cell (va_up g 1 x) (nI r) (nI k) = some (nI (606 + 64 * r + P r)) := by
        unfold f11_cell
        simp (disch := omega) only [rd_n, ck_n, wr_n, cl_n, st_e, b2_e, bd_e, ltp, lep, eqp, m1p, m1l, m1e, m1a, nI_add, pk_sub, pk_mul, dvp, nzp, up_s, up_x, up_01, if_true, if_false, Nat.not_lt_zero, Nat.zero_add, z_0, z_1, z_2, z_3, z_4, z_5, z_10, z_11, z_15, z_20, z_30, z_63, z_64, z_99, z_100, z_127, z_128, z_200, z_256, z_300, z_400, z_500, z_600, z_601, z_602, z_603, z_604, z_605, z_606, z_862, z_990, z_1000, z_1090, z_1390, z_1393, z_1394, z_1395, z_1396, z_1397, z_1398, z_1399, z_1400, z_1401, z_1402, z_1403, z_1404, z_1405, z_1705, z_1805, z_7220, h10 r (show r < 4 by omega)]
      have skip : ¬ (w < 15 ∧ (car = 0 ∨ w = least)) → ∃ y, f11_count_l97 n (nI k) (nI least) (nI (r + 1)) (va_up g 1 x) = f11_count_j164 (va_up g 1 y) ∧ (∀ j, (j < 606 ∨ 862 ≤ j) → y j = x j) ∧ ∀ q c v, q < 4 → c < 64 → x (606 + 64 * q + c) = nI v → v ≤ 15 → y (606 + 64 * q + c) = nI (if r ≤ q ∧ q < D ∧ c = P q ∧ v < 15 ∧ (car = 0 ∨ v = least) then v + 1 else v) := by
        intro hno
        obtain ⟨y, e1, e2, e3⟩ := ih (r + 1) x (by omega) (by omega) hc0 h10 h6
        refine ⟨y, e1, e2, fun q c v hq hc hv h15 => ?_⟩
        rw [e3 q c v hq hc hv h15]
        congr 1
        by_cases hqr : q = r
        · subst hqr
          by_cases hcp : c = P q
          · subst hcp
            have : v = w := (nI_eq (by omega) (by omega)).mp (hv.symm.trans hw)
            subst this
            rw [if_neg (by omega), if_neg (by omega)]
          · rw [if_neg (fun h => hcp h.2.2.1), if_neg (fun h => hcp h.2.2.1)]
        · by_cases hrq : r ≤ q
          · simp only [show (r + 1 ≤ q) = True by simp; omega, show (r ≤ q) = True by simp; omega]
          · rw [if_neg (by omega), if_neg (by omega)]
      have go : w < 15 → (car = 0 ∨ w = least) → ∃ y, f11_count_j147 (f11_count_l97 n) (nI k) (nI least) (nI r) (nI (606 + 64 * r + P r)) (va_up g 1 x) = f11_count_j164 (va_up g 1 y) ∧ (∀ j, (j < 606 ∨ 862 ≤ j) → y j = x j) ∧ ∀ q c v, q < 4 → c < 64 → x (606 + 64 * q + c) = nI v → v ≤ 15 → y (606 + 64 * q + c) = nI (if r ≤ q ∧ q < D ∧ c = P q ∧ v < 15 ∧ (car = 0 ∨ v = least) then v + 1 else v) := by
        intro hw1 hw2
        unfold f11_count_j147
        simp (disch := omega) only [rd_n, ck_n, wr_n, cl_n, st_e, b2_e, bd_e, ltp, lep, eqp, m1p, m1l, m1e, m1a, nI_add, pk_sub, pk_mul, dvp, nzp, up_s, up_x, up_01, if_true, if_false, Nat.not_lt_zero, Nat.zero_add, z_0, z_1, z_2, z_3, z_4, z_5, z_10, z_11, z_15, z_20, z_30, z_63, z_64, z_99, z_100, z_127, z_128, z_200, z_256, z_300, z_400, z_500, z_600, z_601, z_602, z_603, z_604, z_605, z_606, z_862, z_990, z_1000, z_1090, z_1390, z_1393, z_1394, z_1395, z_1396, z_1397, z_1398, z_1399, z_1400, z_1401, z_1402, z_1403, z_1404, z_1405, z_1705, z_1805, z_7220, hw]
        obtain ⟨x1, hx1⟩ : ∃ z, z = upd x (606 + 64 * r + P r) (nI (w + 1)) := ⟨_, rfl⟩
        rw [← hx1]
        have a2 : ∀ j, j ≠ 606 + 64 * r + P r → x1 j = x j := fun j hj => by rw [hx1, ud_n hj]
        have a3 : x1 (606 + 64 * r + P r) = nI (w + 1) := by rw [hx1, ud_s]
        obtain ⟨y, e1, e2, e3⟩ := ih (r + 1) x1 (by omega) (by omega) (by rw [a2 _ (by omega)]; exact hc0) (fun q hq => by rw [a2 _ (by omega)]; exact h10 q hq) (fun q c hq hc => by
          by_cases hqr : q = r
          · subst hqr
            by_cases hcp : c = P q
            · subst hcp
              exact ⟨w + 1, a3, by omega⟩
            · rw [a2 _ (by omega)]
              exact h6 q c hq hc
          · rw [a2 _ (by omega)]
            exact h6 q c hq hc)
        refine ⟨y, e1, fun j hj => by rw [e2 j hj, a2 j (by omega)], fun q c v hq hc hv h15 => ?_⟩
        by_cases hqr : q = r
        · subst hqr
          by_cases hcp : c = P q
          · subst hcp
            have : v = w := (nI_eq (by omega) (by omega)).mp (hv.symm.trans hw)
            subst this
            rw [e3 q _ (v + 1) hq hc a3 (by omega)]
            congr 1
            rw [if_neg (by omega), if_pos ⟨by omega, by omega, rfl, hw1, hw2⟩]
          · rw [e3 q c v hq hc (by rw [a2 _ (by omega)]; exact hv) h15]
            congr 1
            rw [if_neg (fun h => hcp h.2.2.1), if_neg (fun h => hcp h.2.2.1)]
        · rw [e3 q c v hq hc (by rw [a2 _ (by omega)]; exact hv) h15]
          congr 1
          by_cases hrq : r ≤ q
          · simp only [show (r + 1 ≤ q) = True by simp; omega, show (r ≤ q) = True by simp; omega]
          · rw [if_neg (by omega), if_neg (by omega)]
      simp (disch := omega) only [rd_n, ck_n, wr_n, cl_n, st_e, b2_e, bd_e, ltp, lep, eqp, m1p, m1l, m1e, m1a, nI_add, pk_sub, pk_mul, dvp, nzp, up_s, up_x, up_01, if_true, if_false, Nat.not_lt_zero, Nat.zero_add, z_0, z_1, z_2, z_3, z_4, z_5, z_10, z_11, z_15, z_20, z_30, z_63, z_64, z_99, z_100, z_127, z_128, z_200, z_256, z_300, z_400, z_500, z_600, z_601, z_602, z_603, z_604, z_605, z_606, z_862, z_990, z_1000, z_1090, z_1390, z_1393, z_1394, z_1395, z_1396, z_1397, z_1398, z_1399, z_1400, z_1401, z_1402, z_1403, z_1404, z_1405, z_1705, z_1805, z_7220, h0, if_neg hr, hcell, hw, hc0]
      by_cases h15w : 15 ≤ w
      · rw [if_pos h15w]
        exact skip (by omega)
      · rw [if_neg h15w]
        by_cases hq0 : car = 0
        · rw [if_pos hq0]
          exact go (by omega) (Or.inl hq0)
        · rw [if_neg hq0]
          by_cases hq1 : w = least
          · rw [if_pos hq1]
            exact go (by omega) (Or.inr hq1)
          · rw [if_neg hq1]
            exact skip (by omega)
