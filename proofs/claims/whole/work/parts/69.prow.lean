/-! the class's rows -/
theorem pr_takeL {R r k last p : Nat} (g : Sg) (z : Nat → Int32) (hR : R < 6) (hr : r < R) (hk : k < 100) (hl : last < 100) (hp : p ≤ last) (h1 : ∀ j, j < p → ¬ z j = nI k) (h2 : z p = nI k) : ∀ (n i : Nat), i ≤ last → last - i < n →
    f5_takeOut_l36 R n (nI k) (nI r) (nI r) (nI last) (nI (if p < i then 1 else 0)) (nI i) (va_up g (r + 6) (ov (fun j => z (j + 1)) p (i - p) z)) = f5_takeOut_j84 R (nI k) (nI r) (nI last) (va_up g (r + 6) (ov (fun j => z (j + 1)) p (last - p) z)) := by
  intro n
  induction n with
  | zero => intro i h1 h2; omega
  | succ n ih =>
    intro i h3 h4
    show f5_takeOut_b36 R (f5_takeOut_l36 R n) (nI k) (nI r) (nI r) (nI last) _ (nI i) _ = _
    unfold f5_takeOut_b36
    by_cases hi : last ≤ i
    · simp (disch := omega) only [rd_n, ck_n, wr_n, cl_n, st_e, b2_e, bd_e, ltp, lep, eqp, m1p, m1l, m1e, m1a, nI_add, pk_sub, pk_mul, dvp, nzp, up_s, up_x, up_01, if_true, if_false, Nat.not_lt_zero, Nat.zero_add, z_0, z_1, z_2, z_3, z_4, z_5, z_10, z_11, z_15, z_20, z_30, z_63, z_64, z_99, z_100, z_127, z_128, z_200, z_256, z_300, z_400, z_500, z_600, z_601, z_602, z_603, z_604, z_605, z_606, z_862, z_990, z_1000, z_1090, z_1390, z_1393, z_1394, z_1395, z_1396, z_1397, z_1398, z_1399, z_1400, z_1401, z_1402, z_1403, z_1404, z_1405, z_1705, z_1805, z_7220, if_pos hi]
      rw [show i = last by omega]
    · have j56 : p ≤ i → f5_takeOut_j56 R (f5_takeOut_l36 R n) (nI k) (nI r) (nI r) (nI last) (nI i) (va_up g (r + 6) (ov (fun j => z (j + 1)) p (i - p) z)) = f5_takeOut_j84 R (nI k) (nI r) (nI last) (va_up g (r + 6) (ov (fun j => z (j + 1)) p (last - p) z)) := by
        intro hpi
        unfold f5_takeOut_j56
        have e := ih (i + 1) (by omega) (by omega)
        rw [if_pos (show p < i + 1 by omega), show i + 1 - p = (i - p) + 1 by omega, ← ov_s (v := z (i + 1)) (by show z (i + 1) = z (p + (i - p) + 1); congr 1; omega), show p + (i - p) = i by omega] at e
        simp (disch := omega) only [rd_n, ck_n, wr_n, cl_n, st_e, b2_e, bd_e, ltp, lep, eqp, m1p, m1l, m1e, m1a, nI_add, pk_sub, pk_mul, dvp, nzp, up_s, up_x, up_01, if_true, if_false, Nat.not_lt_zero, Nat.zero_add, z_0, z_1, z_2, z_3, z_4, z_5, z_10, z_11, z_15, z_20, z_30, z_63, z_64, z_99, z_100, z_127, z_128, z_200, z_256, z_300, z_400, z_500, z_600, z_601, z_602, z_603, z_604, z_605, z_606, z_862, z_990, z_1000, z_1090, z_1390, z_1393, z_1394, z_1395, z_1396, z_1397, z_1398, z_1399, z_1400, z_1401, z_1402, z_1403, z_1404, z_1405, z_1705, z_1805, z_7220, ov_ge]
        exact e
      by_cases hpi : p < i
      · simp (disch := omega) only [rd_n, ck_n, wr_n, cl_n, st_e, b2_e, bd_e, ltp, lep, eqp, m1p, m1l, m1e, m1a, nI_add, pk_sub, pk_mul, dvp, nzp, up_s, up_x, up_01, if_true, if_false, Nat.not_lt_zero, Nat.zero_add, z_0, z_1, z_2, z_3, z_4, z_5, z_10, z_11, z_15, z_20, z_30, z_63, z_64, z_99, z_100, z_127, z_128, z_200, z_256, z_300, z_400, z_500, z_600, z_601, z_602, z_603, z_604, z_605, z_606, z_862, z_990, z_1000, z_1090, z_1390, z_1393, z_1394, z_1395, z_1396, z_1397, z_1398, z_1399, z_1400, z_1401, z_1402, z_1403, z_1404, z_1405, z_1705, z_1805, z_7220, if_neg hi, if_pos hpi]
        rw [if_neg (by decide)]
        exact j56 (by omega)
      · have e0 : i - p = 0 := by omega
        by_cases hpe : p = i
        · subst hpe
          have := j56 (by omega)
          rw [Nat.sub_self, ov_0] at this ⊢
          simp (disch := omega) only [rd_n, ck_n, wr_n, cl_n, st_e, b2_e, bd_e, ltp, lep, eqp, m1p, m1l, m1e, m1a, nI_add, pk_sub, pk_mul, dvp, nzp, up_s, up_x, up_01, if_true, if_false, Nat.not_lt_zero, Nat.zero_add, z_0, z_1, z_2, z_3, z_4, z_5, z_10, z_11, z_15, z_20, z_30, z_63, z_64, z_99, z_100, z_127, z_128, z_200, z_256, z_300, z_400, z_500, z_600, z_601, z_602, z_603, z_604, z_605, z_606, z_862, z_990, z_1000, z_1090, z_1390, z_1393, z_1394, z_1395, z_1396, z_1397, z_1398, z_1399, z_1400, z_1401, z_1402, z_1403, z_1404, z_1405, z_1705, z_1805, z_7220, if_neg hi, Nat.lt_irrefl, h2]
          exact this
        · have e := ih (i + 1) (by omega) (by omega)
          rw [if_neg (by omega), show i + 1 - p = 0 by omega, ov_0] at e
          have hne := h1 i (by omega)
          rw [e0, ov_0]
          simp (disch := omega) only [rd_n, ck_n, wr_n, cl_n, st_e, b2_e, bd_e, ltp, lep, eqp, m1p, m1l, m1e, m1a, nI_add, pk_sub, pk_mul, dvp, nzp, up_s, up_x, up_01, if_true, if_false, Nat.not_lt_zero, Nat.zero_add, z_0, z_1, z_2, z_3, z_4, z_5, z_10, z_11, z_15, z_20, z_30, z_63, z_64, z_99, z_100, z_127, z_128, z_200, z_256, z_300, z_400, z_500, z_600, z_601, z_602, z_603, z_604, z_605, z_606, z_862, z_990, z_1000, z_1090, z_1390, z_1393, z_1394, z_1395, z_1396, z_1397, z_1398, z_1399, z_1400, z_1401, z_1402, z_1403, z_1404, z_1405, z_1705, z_1805, z_7220, if_neg hi, if_neg hpi, if_neg hne]
          exact e
theorem pr_take {R : Nat} {L : Nat → List Nat} {Z : Nat → Nat} {g : Sg} {k : Nat} (hR : R < 6) (hL : okL R L) (hZ : ∀ k, k < 100 → 1 ≤ Z k ∧ Z k ≤ 20) (h : RW R L Z g) (hk : k < 100) : ∃ g2, f5_takeOut R (nI k) g = some g2 ∧ RW R (outL L k) Z g2 := by
  obtain ⟨c1, c2, c3, c4, c5⟩ := h
  by_cases hin : ∃ r, r < R ∧ k ∈ L r
  · obtain ⟨r, hr, hkr⟩ := hin
    obtain ⟨p, p1, p2, p3, p4⟩ := pos_ex (L r) hkr
    have e4 : g 4 k = nI r := (c4 k hk).1 r hr hkr
    have hlen := hL.len hr
    have hother : ∀ q, q < R → q ≠ r → k ∉ L q := fun q hq hne h => hne (hL.2 q r k hq hr h hkr)
    have huE := uS_erase (Z := Z) (L r) hkr
    have huB : uS Z (L r) ≤ 2000 := by
      have : ∀ l : List Nat, (∀ k, k ∈ l → k < 100) → uS Z l ≤ 20 * l.length := by
        intro l
        induction l with
        | nil => intro _; exact Nat.le_refl 0
        | cons a l ih =>
          intro hh
          have h1 := ih (fun k hk => hh k (by simp [hk]))
          have h2 := (hZ a (hh a (by simp))).2
          show Z a + uS Z l ≤ 20 * (l.length + 1)
          omega
      have := this (L r) (hL.1 r hr).2
      omega
    have hne : ∀ j, j < p → ¬ g (r + 6) j = nI k := by
      intro j hj
      have hgm := (hL.1 r hr).2 _ (gt_mem (l := L r) (j := j) (by omega))
      rw [c3 r j hr (by omega)]
      intro e
      exact p3 j hj ((nI_eq (by omega) (by omega)).mp e)
    have hl := pr_takeL (last := (L r).length - 1) (p := p) g (g (r + 6)) hR hr hk (by omega) (by omega) hne (by rw [c3 r p hr p1, p2]) NF 0 (by omega) (by show _ < 8000; omega)
    rw [if_neg (by omega), Nat.zero_sub, ov_0, show va_up g (r + 6) (g (r + 6)) = g from up_id g (r + 6)] at hl
    obtain ⟨z, hz⟩ : ∃ z, z = ov (fun j => g (r + 6) (j + 1)) p ((L r).length - 1 - p) (g (r + 6)) := ⟨_, rfl⟩
    rw [← hz] at hl
    have hzk := (hZ k hk).1
    unfold f5_takeOut
    simp (disch := omega) only [rd_n, ck_n, wr_n, cl_n, st_e, b2_e, bd_e, ltp, lep, eqp, m1p, m1l, m1e, m1a, nI_add, pk_sub, pk_mul, dvp, nzp, up_s, up_x, up_01, if_true, if_false, Nat.not_lt_zero, Nat.zero_add, z_0, z_1, z_2, z_3, z_4, z_5, z_10, z_11, z_15, z_20, z_30, z_63, z_64, z_99, z_100, z_127, z_128, z_200, z_256, z_300, z_400, z_500, z_600, z_601, z_602, z_603, z_604, z_605, z_606, z_862, z_990, z_1000, z_1090, z_1390, z_1393, z_1394, z_1395, z_1396, z_1397, z_1398, z_1399, z_1400, z_1401, z_1402, z_1403, z_1404, z_1405, z_1705, z_1805, z_7220, e4, c1 r hr]
    rw [show nI ((L r).length - 1) = nI ((L r).length - 1) from rfl, hl]
    unfold f5_takeOut_j84
    simp (disch := omega) only [rd_n, ck_n, wr_n, cl_n, st_e, b2_e, bd_e, ltp, lep, eqp, m1p, m1l, m1e, m1a, nI_add, pk_sub, pk_mul, dvp, nzp, up_s, up_x, up_01, if_true, if_false, Nat.not_lt_zero, Nat.zero_add, z_0, z_1, z_2, z_3, z_4, z_5, z_10, z_11, z_15, z_20, z_30, z_63, z_64, z_99, z_100, z_127, z_128, z_200, z_256, z_300, z_400, z_500, z_600, z_601, z_602, z_603, z_604, z_605, z_606, z_862, z_990, z_1000, z_1090, z_1390, z_1393, z_1394, z_1395, z_1396, z_1397, z_1398, z_1399, z_1400, z_1401, z_1402, z_1403, z_1404, z_1405, z_1705, z_1805, z_7220, up_n, c2 r hr, c5 k hk]
    refine ⟨_, rfl, fun q hq => ?_, fun q hq => ?_, fun q i hq hi => ?_, fun j hj => ⟨fun q hq hjq => ?_, fun hj2 => ?_⟩, fun j hj => ?_⟩
    · rw [up_n (by decide), up_n (by decide), up_s]
      by_cases e : q = r
      · subst e
        rw [ud_s]
        show _ = nI ((L q).erase k).length
        rw [List.length_erase_of_mem hkr]
      · rw [ud_n e]
        show _ = nI ((L q).erase k).length
        rw [List.erase_of_not_mem (hother q hq e)]
        exact c1 q hq
    · rw [up_n (by decide), up_s]
      by_cases e : q = r
      · subst e
        rw [ud_s]
        show _ = nI (uS Z ((L q).erase k))
        congr 1
        omega
      · rw [ud_n e]
        show _ = nI (uS Z ((L q).erase k))
        rw [List.erase_of_not_mem (hother q hq e)]
        exact c2 q hq
    · rw [up_n (by omega), up_n (by omega), up_n (by omega)]
      have hi : i < ((L q).erase k).length := hi
      show _ = nI (gt ((L q).erase k) i)
      by_cases e : q = r
      · subst e
        rw [List.length_erase_of_mem hkr] at hi
        rw [up_s, p4, gt_ei, hz]
        by_cases hip : i < p
        · rw [ov_lt hip, if_pos hip]
          exact c3 q i hq (by omega)
        · rw [ov_in (by omega) (by omega), if_neg hip]
          exact c3 q (i + 1) hq (by omega)
      · rw [List.erase_of_not_mem (hother q hq e)] at hi ⊢
        rw [up_n (by omega)]
        exact c3 q i hq hi
    · have hjq : j ∈ (L q).erase k := hjq
      have hjk := (List.Nodup.mem_erase_iff (hL.1 q hq).1).mp hjq
      rw [up_s, ud_n hjk.1]
      exact (c4 j hj).1 q hq hjk.2
    · rw [up_s]
      by_cases e : j = k
      · subst e
        rw [ud_s]
        rfl
      · rw [ud_n e]
        exact (c4 j hj).2 (fun q hq hh => hj2 q hq ((List.Nodup.mem_erase_iff (hL.1 q hq).1).mpr ⟨e, hh⟩))
    · rw [up_n (by decide), up_n (by decide), up_n (by decide), up_n (by omega)]
      exact c5 j hj
  · have hno : ∀ q, q < R → k ∉ L q := fun q hq hh => hin ⟨q, hq, hh⟩
    have e4 : g 4 k = -1 := (c4 k hk).2 hno
    have he : ∀ q, q < R → outL L k q = L q := fun q hq => List.erase_of_not_mem (hno q hq)
    refine ⟨g, ?_, fun q hq => ?_, fun q hq => ?_, fun q i hq hi => ?_, fun j hj => ⟨fun q hq hjq => ?_, fun hj2 => ?_⟩, c5⟩
    · unfold f5_takeOut
      rw [rd_n hk (by decide), e4, if_pos rfl]
    · rw [he q hq]; exact c1 q hq
    · rw [he q hq]; exact c2 q hq
    · rw [he q hq] at hi ⊢; exact c3 q i hq hi
    · rw [he q hq] at hjq; exact (c4 j hj).1 q hq hjq
    · exact (c4 j hj).2 (fun q hq => by rw [← he q hq]; exact hj2 q hq)
