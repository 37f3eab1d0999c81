/-! the reference's rows of keys -/
def RQ (L : Nat → List Nat) (Z : Nat → Nat) (x : Nat → Int32) : Prop := (∀ r, r < 3 → x (1390 + r) = nI (L r).length) ∧ (∀ r i, r < 3 → i < (L r).length → x (1090 + 100 * r + i) = nI (gt (L r) i)) ∧ ∀ k, k < 100 → x (990 + k) = nI (Z k)
/-- what the rows' changes leave as it was -/
def QF (x y : Nat → Int32) : Prop := ∀ j, (j < 1090 ∨ 1393 ≤ j) → y j = x j
theorem QF.t {x y z : Nat → Int32} (h1 : QF x y) (h2 : QF y z) : QF x z := fun j hj => (h2 j hj).trans (h1 j hj)
theorem RQ.congr {L M : Nat → List Nat} {Z : Nat → Nat} {x : Nat → Int32} (h : RQ L Z x) (e : ∀ r, r < 3 → L r = M r) : RQ M Z x :=
  ⟨fun r hr => by rw [← e r hr]; exact h.1 r hr, fun r i hr hi => by rw [← e r hr] at hi ⊢; exact h.2.1 r i hr hi, h.2.2⟩
theorem dr_c {l : List Nat} {i : Nat} (h : i < l.length) : l.drop i = gt l i :: l.drop (i + 1) := by
  rw [List.drop_eq_getElem_cons h]
  simp [gt, h]
theorem pm_len {L : Nat → List Nat} {Z : Nat → Nat} {g : Sg} {r : Nat} (hr : r < 3) (h : RQ L Z (g 1)) : f11_length g (nI r) = some (nI (L r).length) := by
  have e := h.1 r hr
  unfold f11_length
  simp (disch := omega) only [rd_n, ck_n, wr_n, cl_n, st_e, b2_e, bd_e, ltp, lep, eqp, m1p, m1l, m1e, m1a, nI_add, pk_sub, pk_mul, dvp, nzp, up_s, up_x, up_01, if_true, if_false, Nat.not_lt_zero, Nat.zero_add, z_0, z_1, z_2, z_3, z_4, z_5, z_10, z_11, z_15, z_20, z_30, z_63, z_64, z_99, z_100, z_127, z_128, z_200, z_256, z_300, z_400, z_500, z_600, z_601, z_602, z_603, z_604, z_605, z_606, z_862, z_990, z_1000, z_1090, z_1390, z_1393, z_1394, z_1395, z_1396, z_1397, z_1398, z_1399, z_1400, z_1401, z_1402, z_1403, z_1404, z_1405, z_1705, z_1805, z_7220, e]
theorem pm_key {L : Nat → List Nat} {Z : Nat → Nat} {g : Sg} {r i : Nat} (hr : r < 3) (h : RQ L Z (g 1)) (hL : (L r).length ≤ 100) (hi : i < (L r).length) : f11_keyAt g (nI r) (nI i) = some (nI (gt (L r) i)) := by
  have e := h.2.1 r i hr hi
  unfold f11_keyAt
  simp (disch := omega) only [rd_n, ck_n, wr_n, cl_n, st_e, b2_e, bd_e, ltp, lep, eqp, m1p, m1l, m1e, m1a, nI_add, pk_sub, pk_mul, dvp, nzp, up_s, up_x, up_01, if_true, if_false, Nat.not_lt_zero, Nat.zero_add, z_0, z_1, z_2, z_3, z_4, z_5, z_10, z_11, z_15, z_20, z_30, z_63, z_64, z_99, z_100, z_127, z_128, z_200, z_256, z_300, z_400, z_500, z_600, z_601, z_602, z_603, z_604, z_605, z_606, z_862, z_990, z_1000, z_1090, z_1390, z_1393, z_1394, z_1395, z_1396, z_1397, z_1398, z_1399, z_1400, z_1401, z_1402, z_1403, z_1404, z_1405, z_1705, z_1805, z_7220, e]
theorem pm_units {L : Nat → List Nat} {Z : Nat → Nat} {g : Sg} {r : Nat} (hr : r < 3) (hL : okL 3 L) (h : RQ L Z (g 1)) : f11_units g (nI r) = some (nI (uS Z (L r))) := by
  have hlen := hL.len hr
  have H : ∀ (n i s : Nat), i ≤ (L r).length → (L r).length - i < n → f11_units_l4 g n (nI r) (nI s) (nI i) = some (nI (s + uS Z ((L r).drop i))) := by
    intro n
    induction n with
    | zero => intro i s h1 h2; omega
    | succ n ih =>
      intro i s h1 h2
      show f11_units_b4 g (f11_units_l4 g n) (nI r) (nI s) (nI i) = _
      unfold f11_units_b4
      by_cases hi : (L r).length ≤ i
      · simp (disch := omega) only [rd_n, ck_n, wr_n, cl_n, st_e, b2_e, bd_e, ltp, lep, eqp, m1p, m1l, m1e, m1a, nI_add, pk_sub, pk_mul, dvp, nzp, up_s, up_x, up_01, if_true, if_false, Nat.not_lt_zero, Nat.zero_add, z_0, z_1, z_2, z_3, z_4, z_5, z_10, z_11, z_15, z_20, z_30, z_63, z_64, z_99, z_100, z_127, z_128, z_200, z_256, z_300, z_400, z_500, z_600, z_601, z_602, z_603, z_604, z_605, z_606, z_862, z_990, z_1000, z_1090, z_1390, z_1393, z_1394, z_1395, z_1396, z_1397, z_1398, z_1399, z_1400, z_1401, z_1402, z_1403, z_1404, z_1405, z_1705, z_1805, z_7220, pm_len hr h, if_pos hi]
        rw [List.drop_eq_nil_of_le hi]
        rfl
      · have hi : i < (L r).length := by omega
        have hk := (hL.1 r hr).2 _ (gt_mem hi)
        have e := h.2.2 _ hk
        simp (disch := omega) only [rd_n, ck_n, wr_n, cl_n, st_e, b2_e, bd_e, ltp, lep, eqp, m1p, m1l, m1e, m1a, nI_add, pk_sub, pk_mul, dvp, nzp, up_s, up_x, up_01, if_true, if_false, Nat.not_lt_zero, Nat.zero_add, z_0, z_1, z_2, z_3, z_4, z_5, z_10, z_11, z_15, z_20, z_30, z_63, z_64, z_99, z_100, z_127, z_128, z_200, z_256, z_300, z_400, z_500, z_600, z_601, z_602, z_603, z_604, z_605, z_606, z_862, z_990, z_1000, z_1090, z_1390, z_1393, z_1394, z_1395, z_1396, z_1397, z_1398, z_1399, z_1400, z_1401, z_1402, z_1403, z_1404, z_1405, z_1705, z_1805, z_7220, pm_len hr h, if_neg (show ¬ (L r).length ≤ i by omega), pm_key hr h hlen hi, e]
        rw [ih (i + 1) _ (by omega) (by omega), dr_c hi]
        show _ = some (nI (s + (Z (gt (L r) i) + uS Z ((L r).drop (i + 1)))))
        congr 2
        omega
  have := H NF 0 0 (by omega) (by show _ < 8000; omega)
  rw [Nat.zero_add, List.drop_zero] at this
  exact this
theorem pm_idxL {L : Nat → List Nat} {Z : Nat → Nat} {g : Sg} {r k : Nat} (hr : r < 3) (hL : okL 3 L) (h : RQ L Z (g 1)) (hk : k < 100) : ∀ (n i : Nat), i ≤ (L r).length → (L r).length - i < n → (∀ p, i ≤ p → p < (L r).length → gt (L r) p = k → (∀ j, i ≤ j → j < p → gt (L r) j ≠ k) → f11_indexOf_l2 g n (nI r) (nI k) (nI i) = some (nI p)) ∧ ((∀ j, i ≤ j → j < (L r).length → gt (L r) j ≠ k) → f11_indexOf_l2 g n (nI r) (nI k) (nI i) = some (-1)) := by
  have hlen := hL.len hr
  intro n
  induction n with
  | zero => intro i h1 h2; omega
  | succ n ih =>
    intro i h1 h2
    show (∀ p, i ≤ p → p < (L r).length → gt (L r) p = k → (∀ j, i ≤ j → j < p → gt (L r) j ≠ k) → f11_indexOf_b2 g (f11_indexOf_l2 g n) (nI r) (nI k) (nI i) = some (nI p)) ∧ ((∀ j, i ≤ j → j < (L r).length → gt (L r) j ≠ k) → f11_indexOf_b2 g (f11_indexOf_l2 g n) (nI r) (nI k) (nI i) = some (-1))
    unfold f11_indexOf_b2
    by_cases hi : (L r).length ≤ i
    · refine ⟨fun p hp1 hp2 => by omega, fun _ => ?_⟩
      simp (disch := omega) only [rd_n, ck_n, wr_n, cl_n, st_e, b2_e, bd_e, ltp, lep, eqp, m1p, m1l, m1e, m1a, nI_add, pk_sub, pk_mul, dvp, nzp, up_s, up_x, up_01, if_true, if_false, Nat.not_lt_zero, Nat.zero_add, z_0, z_1, z_2, z_3, z_4, z_5, z_10, z_11, z_15, z_20, z_30, z_63, z_64, z_99, z_100, z_127, z_128, z_200, z_256, z_300, z_400, z_500, z_600, z_601, z_602, z_603, z_604, z_605, z_606, z_862, z_990, z_1000, z_1090, z_1390, z_1393, z_1394, z_1395, z_1396, z_1397, z_1398, z_1399, z_1400, z_1401, z_1402, z_1403, z_1404, z_1405, z_1705, z_1805, z_7220, pm_len hr h, if_pos hi]
    · have hi : i < (L r).length := by omega
      have hg := (hL.1 r hr).2 _ (gt_mem hi)
      obtain ⟨i1, i2⟩ := ih (i + 1) (by omega) (by omega)
      simp (disch := omega) only [rd_n, ck_n, wr_n, cl_n, st_e, b2_e, bd_e, ltp, lep, eqp, m1p, m1l, m1e, m1a, nI_add, pk_sub, pk_mul, dvp, nzp, up_s, up_x, up_01, if_true, if_false, Nat.not_lt_zero, Nat.zero_add, z_0, z_1, z_2, z_3, z_4, z_5, z_10, z_11, z_15, z_20, z_30, z_63, z_64, z_99, z_100, z_127, z_128, z_200, z_256, z_300, z_400, z_500, z_600, z_601, z_602, z_603, z_604, z_605, z_606, z_862, z_990, z_1000, z_1090, z_1390, z_1393, z_1394, z_1395, z_1396, z_1397, z_1398, z_1399, z_1400, z_1401, z_1402, z_1403, z_1404, z_1405, z_1705, z_1805, z_7220, pm_len hr h, if_neg (show ¬ (L r).length ≤ i by omega), pm_key hr h hlen hi]
      refine ⟨fun p hp1 hp2 hp3 hp4 => ?_, fun hn => ?_⟩
      · by_cases e : gt (L r) i = k
        · rw [if_pos e]
          by_cases e2 : i = p
          · rw [e2]
          · exact absurd e (hp4 i (by omega) (by omega))
        · rw [if_neg e]
          have : i ≠ p := fun e2 => e (by rw [e2]; exact hp3)
          exact i1 p (by omega) hp2 hp3 (fun j hj => hp4 j (by omega))
      · rw [if_neg (hn i (by omega) hi)]
        exact i2 (fun j hj => hn j (by omega))
theorem pm_idx {L : Nat → List Nat} {Z : Nat → Nat} {g : Sg} {r k p : Nat} (hr : r < 3) (hL : okL 3 L) (h : RQ L Z (g 1)) (hk : k < 100) (hp : p < (L r).length) (h1 : gt (L r) p = k) (h2 : ∀ j, j < p → gt (L r) j ≠ k) : f11_indexOf g (nI r) (nI k) = some (nI p) := by
  have hlen := hL.len hr
  exact (pm_idxL hr hL h hk NF 0 (by omega) (by show _ < 8000; omega)).1 p (by omega) hp h1 (fun j _ hj => h2 j hj)
theorem pm_idxN {L : Nat → List Nat} {Z : Nat → Nat} {g : Sg} {r k : Nat} (hr : r < 3) (hL : okL 3 L) (h : RQ L Z (g 1)) (hk : k < 100) (hn : k ∉ L r) : f11_indexOf g (nI r) (nI k) = some (-1) := by
  have hlen := hL.len hr
  exact (pm_idxL hr hL h hk NF 0 (by omega) (by show _ < 8000; omega)).2 (fun j _ hj e => hn (e ▸ gt_mem hj))
theorem pm_partL {L : Nat → List Nat} {Z : Nat → Nat} {g : Sg} {k : Nat} (hL : okL 3 L) (h : RQ L Z (g 1)) (hk : k < 100) : ∀ (n i : Nat), i ≤ 3 → 3 - i < n → (∀ j, j < i → k ∉ L j) → (∀ r, r < 3 → k ∈ L r → f11_partOf_l2 g n (nI k) (nI i) = some (nI r)) ∧ ((∀ r, r < 3 → k ∉ L r) → f11_partOf_l2 g n (nI k) (nI i) = some (-1)) := by
  intro n
  induction n with
  | zero => intro i h1 h2; omega
  | succ n ih =>
    intro i h1 h2 h3
    show (∀ r, r < 3 → k ∈ L r → f11_partOf_b2 g (f11_partOf_l2 g n) (nI k) (nI i) = some (nI r)) ∧ ((∀ r, r < 3 → k ∉ L r) → f11_partOf_b2 g (f11_partOf_l2 g n) (nI k) (nI i) = some (-1))
    unfold f11_partOf_b2
    by_cases hi : 3 ≤ i
    · refine ⟨fun r hr hkr => absurd hkr (h3 r (by omega)), fun _ => ?_⟩
      simp (disch := omega) only [rd_n, ck_n, wr_n, cl_n, st_e, b2_e, bd_e, ltp, lep, eqp, m1p, m1l, m1e, m1a, nI_add, pk_sub, pk_mul, dvp, nzp, up_s, up_x, up_01, if_true, if_false, Nat.not_lt_zero, Nat.zero_add, z_0, z_1, z_2, z_3, z_4, z_5, z_10, z_11, z_15, z_20, z_30, z_63, z_64, z_99, z_100, z_127, z_128, z_200, z_256, z_300, z_400, z_500, z_600, z_601, z_602, z_603, z_604, z_605, z_606, z_862, z_990, z_1000, z_1090, z_1390, z_1393, z_1394, z_1395, z_1396, z_1397, z_1398, z_1399, z_1400, z_1401, z_1402, z_1403, z_1404, z_1405, z_1705, z_1805, z_7220, if_pos hi]
    · have hi3 : i < 3 := by omega
      by_cases hin : k ∈ L i
      · obtain ⟨p, p1, p2, p3, p4⟩ := pos_ex (L i) hin
        have hlen := hL.len hi3
        refine ⟨fun r hr hkr => ?_, fun hn => absurd hin (hn i hi3)⟩
        simp (disch := omega) only [rd_n, ck_n, wr_n, cl_n, st_e, b2_e, bd_e, ltp, lep, eqp, m1p, m1l, m1e, m1a, nI_add, pk_sub, pk_mul, dvp, nzp, up_s, up_x, up_01, if_true, if_false, Nat.not_lt_zero, Nat.zero_add, z_0, z_1, z_2, z_3, z_4, z_5, z_10, z_11, z_15, z_20, z_30, z_63, z_64, z_99, z_100, z_127, z_128, z_200, z_256, z_300, z_400, z_500, z_600, z_601, z_602, z_603, z_604, z_605, z_606, z_862, z_990, z_1000, z_1090, z_1390, z_1393, z_1394, z_1395, z_1396, z_1397, z_1398, z_1399, z_1400, z_1401, z_1402, z_1403, z_1404, z_1405, z_1705, z_1805, z_7220, if_neg hi, pm_idx hi3 hL h hk p1 p2 p3]
        rw [hL.2 i r k hi3 hr hin hkr]
      · obtain ⟨i1, i2⟩ := ih (i + 1) (by omega) (by omega) (fun j hj => by
          by_cases e : j = i
          · rw [e]; exact hin
          · exact h3 j (by omega))
        simp (disch := omega) only [rd_n, ck_n, wr_n, cl_n, st_e, b2_e, bd_e, ltp, lep, eqp, m1p, m1l, m1e, m1a, nI_add, pk_sub, pk_mul, dvp, nzp, up_s, up_x, up_01, if_true, if_false, Nat.not_lt_zero, Nat.zero_add, z_0, z_1, z_2, z_3, z_4, z_5, z_10, z_11, z_15, z_20, z_30, z_63, z_64, z_99, z_100, z_127, z_128, z_200, z_256, z_300, z_400, z_500, z_600, z_601, z_602, z_603, z_604, z_605, z_606, z_862, z_990, z_1000, z_1090, z_1390, z_1393, z_1394, z_1395, z_1396, z_1397, z_1398, z_1399, z_1400, z_1401, z_1402, z_1403, z_1404, z_1405, z_1705, z_1805, z_7220, if_neg hi, pm_idxN hi3 hL h hk hin]
        exact ⟨i1, i2⟩
theorem pm_part {L : Nat → List Nat} {Z : Nat → Nat} {g : Sg} {r k : Nat} (hr : r < 3) (hL : okL 3 L) (h : RQ L Z (g 1)) (hk : k < 100) (hin : k ∈ L r) : f11_partOf g (nI k) = some (nI r) := (pm_partL hL h hk NF 0 (by omega) (by decide) (fun j hj => absurd hj (Nat.not_lt_zero j))).1 r hr hin
theorem pm_partN {L : Nat → List Nat} {Z : Nat → Nat} {g : Sg} {k : Nat} (hL : okL 3 L) (h : RQ L Z (g 1)) (hk : k < 100) (hn : ∀ r, r < 3 → k ∉ L r) : f11_partOf g (nI k) = some (-1) := (pm_partL hL h hk NF 0 (by omega) (by decide) (fun j hj => absurd hj (Nat.not_lt_zero j))).2 hn
theorem pm_app {L : Nat → List Nat} {Z : Nat → Nat} {g : Sg} {x : Nat → Int32} {r k : Nat} (hr : r < 3) (hL : okL 3 L) (h : RQ L Z x) (hl : (L r).length < 100) : ∃ y, f11_append (nI r) (nI k) (va_up g 1 x) = some (va_up g 1 y) ∧ RQ (appL L r k) Z y ∧ QF x y := by
  have e := h.1 r hr
  have e1 := pm_len (g := va_up g 1 x) hr h
  unfold f11_append
  simp (disch := omega) only [rd_n, ck_n, wr_n, cl_n, st_e, b2_e, bd_e, ltp, lep, eqp, m1p, m1l, m1e, m1a, nI_add, pk_sub, pk_mul, dvp, nzp, up_s, up_x, up_01, if_true, if_false, Nat.not_lt_zero, Nat.zero_add, z_0, z_1, z_2, z_3, z_4, z_5, z_10, z_11, z_15, z_20, z_30, z_63, z_64, z_99, z_100, z_127, z_128, z_200, z_256, z_300, z_400, z_500, z_600, z_601, z_602, z_603, z_604, z_605, z_606, z_862, z_990, z_1000, z_1090, z_1390, z_1393, z_1394, z_1395, z_1396, z_1397, z_1398, z_1399, z_1400, z_1401, z_1402, z_1403, z_1404, z_1405, z_1705, z_1805, z_7220, e1, ud_n, e]
  refine ⟨_, rfl, ⟨fun q hq => ?_, fun q i hq hi => ?_, fun j hj => ?_⟩, fun j hj => ?_⟩
  · by_cases e2 : q = r
    · subst e2
      simp only [ud_s, appL, up_s, List.length_append, List.length_singleton]
    · rw [ud_n (by omega), ud_n (by omega), appL, up_n e2]
      exact h.1 q hq
  · have hq100 := hL.len hq
    by_cases e2 : q = r
    · subst e2
      simp only [appL, up_s, List.length_append, List.length_singleton] at hi ⊢
      rw [ud_n (by omega)]
      by_cases e3 : i = (L q).length
      · subst e3
        rw [ud_s, gt_ae]
      · rw [ud_n (by omega), gt_al (by omega)]
        exact h.2.1 q i hq (by omega)
    · rw [appL, up_n e2] at hi ⊢
      rw [ud_n (by omega), ud_n (by omega)]
      exact h.2.1 q i hq hi
  · rw [ud_n (by omega), ud_n (by omega)]
    exact h.2.2 j hj
  · rw [ud_n (by omega), ud_n (by omega)]
def eiL (L : Nat → List Nat) (r i : Nat) : Nat → List Nat := va_up L r ((L r).eraseIdx i)
theorem pm_takeL {L : Nat → List Nat} {Z : Nat → Nat} {g : Sg} {x : Nat → Int32} {r i : Nat} {v : Int32} (hr : r < 3) (hL : okL 3 L) (h : RQ L Z x) (hi : i < (L r).length) : ∀ (n k : Nat), i + 1 ≤ k → k ≤ (L r).length → (L r).length - k < n →
    f11_take_l12 n (nI r) v (nI k) (va_up g 1 (ov (fun j => x (j + 1)) (1090 + 100 * r + i) (k - 1 - i) x)) = f11_take_j53 (nI r) v (va_up g 1 (ov (fun j => x (j + 1)) (1090 + 100 * r + i) ((L r).length - 1 - i) x)) := by
  have hlen := hL.len hr
  have e0 := h.1 r hr
  intro n
  induction n with
  | zero => intro k h1 h2 h3; omega
  | succ n ih =>
    intro k h1 h2 h3
    show f11_take_b12 (f11_take_l12 n) (nI r) v (nI k) _ = _
    unfold f11_take_b12
    have e1 : f11_length (va_up g 1 (ov (fun j => x (j + 1)) (1090 + 100 * r + i) (k - 1 - i) x)) (nI r) = some (nI (L r).length) := by
      unfold f11_length
      simp (disch := omega) only [rd_n, ck_n, wr_n, cl_n, st_e, b2_e, bd_e, ltp, lep, eqp, m1p, m1l, m1e, m1a, nI_add, pk_sub, pk_mul, dvp, nzp, up_s, up_x, up_01, if_true, if_false, Nat.not_lt_zero, Nat.zero_add, z_0, z_1, z_2, z_3, z_4, z_5, z_10, z_11, z_15, z_20, z_30, z_63, z_64, z_99, z_100, z_127, z_128, z_200, z_256, z_300, z_400, z_500, z_600, z_601, z_602, z_603, z_604, z_605, z_606, z_862, z_990, z_1000, z_1090, z_1390, z_1393, z_1394, z_1395, z_1396, z_1397, z_1398, z_1399, z_1400, z_1401, z_1402, z_1403, z_1404, z_1405, z_1705, z_1805, z_7220, ov_ge, e0]
    by_cases hk : (L r).length ≤ k
    · simp (disch := omega) only [rd_n, ck_n, wr_n, cl_n, st_e, b2_e, bd_e, ltp, lep, eqp, m1p, m1l, m1e, m1a, nI_add, pk_sub, pk_mul, dvp, nzp, up_s, up_x, up_01, if_true, if_false, Nat.not_lt_zero, Nat.zero_add, z_0, z_1, z_2, z_3, z_4, z_5, z_10, z_11, z_15, z_20, z_30, z_63, z_64, z_99, z_100, z_127, z_128, z_200, z_256, z_300, z_400, z_500, z_600, z_601, z_602, z_603, z_604, z_605, z_606, z_862, z_990, z_1000, z_1090, z_1390, z_1393, z_1394, z_1395, z_1396, z_1397, z_1398, z_1399, z_1400, z_1401, z_1402, z_1403, z_1404, z_1405, z_1705, z_1805, z_7220, e1, if_pos hk]
      rw [show k = (L r).length by omega]
    · have e := ih (k + 1) (by omega) (by omega) (by omega)
      rw [show k + 1 - 1 - i = (k - 1 - i) + 1 by omega, ← ov_s (v := x (1090 + 100 * r + k)) (by show _ = x (1090 + 100 * r + i + (k - 1 - i) + 1); congr 1; omega), show 1090 + 100 * r + i + (k - 1 - i) = 1090 + 100 * r + k - 1 by omega] at e
      unfold f11_keyAt
      simp (disch := omega) only [rd_n, ck_n, wr_n, cl_n, st_e, b2_e, bd_e, ltp, lep, eqp, m1p, m1l, m1e, m1a, nI_add, pk_sub, pk_mul, dvp, nzp, up_s, up_x, up_01, if_true, if_false, Nat.not_lt_zero, Nat.zero_add, z_0, z_1, z_2, z_3, z_4, z_5, z_10, z_11, z_15, z_20, z_30, z_63, z_64, z_99, z_100, z_127, z_128, z_200, z_256, z_300, z_400, z_500, z_600, z_601, z_602, z_603, z_604, z_605, z_606, z_862, z_990, z_1000, z_1090, z_1390, z_1393, z_1394, z_1395, z_1396, z_1397, z_1398, z_1399, z_1400, z_1401, z_1402, z_1403, z_1404, z_1405, z_1705, z_1805, z_7220, e1, if_neg hk, ov_ge]
      exact e
theorem pm_take {L : Nat → List Nat} {Z : Nat → Nat} {g : Sg} {x : Nat → Int32} {r i : Nat} (hr : r < 3) (hL : okL 3 L) (h : RQ L Z x) (hi : i < (L r).length) : ∃ y, f11_take (nI r) (nI i) (va_up g 1 x) = some (nI (gt (L r) i), va_up g 1 y) ∧ RQ (eiL L r i) Z y ∧ QF x y := by
  have hlen := hL.len hr
  have e := pm_takeL (g := g) (v := nI (gt (L r) i)) hr hL h hi NF (i + 1) (by omega) (by omega) (by show _ < 8000; omega)
  rw [show i + 1 - 1 - i = 0 by omega, ov_0] at e
  have ek := pm_key (g := va_up g 1 x) hr h hlen hi
  have e0 := h.1 r hr
  unfold f11_take
  simp (disch := omega) only [rd_n, ck_n, wr_n, cl_n, st_e, b2_e, bd_e, ltp, lep, eqp, m1p, m1l, m1e, m1a, nI_add, pk_sub, pk_mul, dvp, nzp, up_s, up_x, up_01, if_true, if_false, Nat.not_lt_zero, Nat.zero_add, z_0, z_1, z_2, z_3, z_4, z_5, z_10, z_11, z_15, z_20, z_30, z_63, z_64, z_99, z_100, z_127, z_128, z_200, z_256, z_300, z_400, z_500, z_600, z_601, z_602, z_603, z_604, z_605, z_606, z_862, z_990, z_1000, z_1090, z_1390, z_1393, z_1394, z_1395, z_1396, z_1397, z_1398, z_1399, z_1400, z_1401, z_1402, z_1403, z_1404, z_1405, z_1705, z_1805, z_7220, ek, e]
  unfold f11_take_j53
  simp (disch := omega) only [rd_n, ck_n, wr_n, cl_n, st_e, b2_e, bd_e, ltp, lep, eqp, m1p, m1l, m1e, m1a, nI_add, pk_sub, pk_mul, dvp, nzp, up_s, up_x, up_01, if_true, if_false, Nat.not_lt_zero, Nat.zero_add, z_0, z_1, z_2, z_3, z_4, z_5, z_10, z_11, z_15, z_20, z_30, z_63, z_64, z_99, z_100, z_127, z_128, z_200, z_256, z_300, z_400, z_500, z_600, z_601, z_602, z_603, z_604, z_605, z_606, z_862, z_990, z_1000, z_1090, z_1390, z_1393, z_1394, z_1395, z_1396, z_1397, z_1398, z_1399, z_1400, z_1401, z_1402, z_1403, z_1404, z_1405, z_1705, z_1805, z_7220, ov_ge, e0]
  have hle : ((L r).eraseIdx i).length = (L r).length - 1 := List.length_eraseIdx_of_lt hi
  refine ⟨_, rfl, ⟨fun q hq => ?_, fun q j hq hj => ?_, fun j hj => ?_⟩, fun j hj => ?_⟩
  · by_cases e2 : q = r
    · subst e2
      rw [ud_s, eiL, up_s, hle]
    · rw [ud_n (by omega), ov_ge (by omega), eiL, up_n e2]
      exact h.1 q hq
  · have hq100 := hL.len hq
    by_cases e2 : q = r
    · subst e2
      rw [eiL, up_s] at hj ⊢
      rw [hle] at hj
      rw [ud_n (by omega), gt_ei]
      by_cases hji : j < i
      · rw [ov_lt (by omega), if_pos hji]
        exact h.2.1 q j hq (by omega)
      · rw [ov_in (by omega) (by omega), if_neg hji]
        exact h.2.1 q (j + 1) hq (by omega)
    · rw [eiL, up_n e2] at hj ⊢
      rw [ud_n (by omega), ov_o (by omega)]
      exact h.2.1 q j hq hj
  · rw [ud_n (by omega), ov_o (by omega)]
    exact h.2.2 j hj
  · rw [ud_n (by omega), ov_o (by omega)]
