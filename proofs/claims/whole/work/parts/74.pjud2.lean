theorem pc_beat0 {D : Nat} {A : AK} {Z : Nat → Nat} {S : Ob} {c : Nat → Int32} {g : Sg} {w p q : List Nat} {b n0 : Nat} (hA : okK D A) (hK : RK D A (S 2)) (hm : c 3 = nI 0) (hok : okL 3 (L3 w p q)) (hR : RW 3 (L3 w p q) Z g) (hb : b ≤ 16) (hn : n0 ≤ (p ++ q).length) : ∀ (n i : Nat) (s : Int32), i ≤ n0 → n0 - i < n → f0_victimsBeaten_l25 (mkS S c g) n (nI n0) (nI b) s (nI i) = some (nI (i + beat (est D A) b (n0 - i) ((p ++ q).drop i))) := by
  have hlen := v_len hok
  intro n
  induction n with
  | zero => intro i s h1 h2; omega
  | succ n ih =>
    intro i s h1 h2
    show f0_victimsBeaten_b25 (mkS S c g) (f0_victimsBeaten_l25 (mkS S c g) n) (nI n0) (nI b) s (nI i) = _
    unfold f0_victimsBeaten_b25 f0_victimsBeaten_j75
    by_cases hi : n0 ≤ i
    · simp (disch := omega) only [rd_n, ck_n, wr_n, cl_n, st_e, b2_e, bd_e, ltp, lep, eqp, m1p, m1l, m1e, m1a, nI_add, pk_sub, pk_mul, dvp, nzp, up_s, up_x, up_01, if_true, if_false, Nat.not_lt_zero, Nat.zero_add, z_0, z_1, z_2, z_3, z_4, z_5, z_10, z_11, z_15, z_20, z_30, z_63, z_64, z_99, z_100, z_127, z_128, z_200, z_256, z_300, z_400, z_500, z_600, z_601, z_602, z_603, z_604, z_605, z_606, z_862, z_990, z_1000, z_1090, z_1390, z_1393, z_1394, z_1395, z_1396, z_1397, z_1398, z_1399, z_1400, z_1401, z_1402, z_1403, z_1404, z_1405, z_1705, z_1805, z_7220, if_pos hi, mk_1, hm]
      rw [show n0 - i = 0 by omega]
      simp [beat]
      rw [show i = n0 by omega]
    · have hi2 : i < (p ++ q).length := by omega
      have hk := v_lt hok hi2
      have ev := pc_vict (S := S) (c := c) hok hR hi2
      have eg := pk_guess hA hK hk
      have hes := est_le (D := D) (A := A) (k := gt (p ++ q) i)
      rw [dr_c hi2, show n0 - i = (n0 - (i + 1)) + 1 by omega]
      show _ = some (nI (i + if b ≤ est D A (gt (p ++ q) i) then 0 else beat (est D A) b (n0 - (i + 1)) ((p ++ q).drop (i + 1)) + 1))
      by_cases hle : b ≤ est D A (gt (p ++ q) i)
      · simp (disch := omega) only [rd_n, ck_n, wr_n, cl_n, st_e, b2_e, bd_e, ltp, lep, eqp, m1p, m1l, m1e, m1a, nI_add, pk_sub, pk_mul, dvp, nzp, up_s, up_x, up_01, if_true, if_false, Nat.not_lt_zero, Nat.zero_add, z_0, z_1, z_2, z_3, z_4, z_5, z_10, z_11, z_15, z_20, z_30, z_63, z_64, z_99, z_100, z_127, z_128, z_200, z_256, z_300, z_400, z_500, z_600, z_601, z_602, z_603, z_604, z_605, z_606, z_862, z_990, z_1000, z_1090, z_1390, z_1393, z_1394, z_1395, z_1396, z_1397, z_1398, z_1399, z_1400, z_1401, z_1402, z_1403, z_1404, z_1405, z_1705, z_1805, z_7220, if_neg hi, ev, mk_2, eg, mk_1, hm, if_neg (show ¬ est D A (gt (p ++ q) i) < b by omega), if_pos hle, Nat.add_zero]
      · have e := ih (i + 1) (s + nI (est D A (gt (p ++ q) i))) (by omega) (by omega)
        simp (disch := omega) only [rd_n, ck_n, wr_n, cl_n, st_e, b2_e, bd_e, ltp, lep, eqp, m1p, m1l, m1e, m1a, nI_add, pk_sub, pk_mul, dvp, nzp, up_s, up_x, up_01, if_true, if_false, Nat.not_lt_zero, Nat.zero_add, z_0, z_1, z_2, z_3, z_4, z_5, z_10, z_11, z_15, z_20, z_30, z_63, z_64, z_99, z_100, z_127, z_128, z_200, z_256, z_300, z_400, z_500, z_600, z_601, z_602, z_603, z_604, z_605, z_606, z_862, z_990, z_1000, z_1090, z_1390, z_1393, z_1394, z_1395, z_1396, z_1397, z_1398, z_1399, z_1400, z_1401, z_1402, z_1403, z_1404, z_1405, z_1705, z_1805, z_7220, if_neg hi, ev, mk_2, eg, mk_1, hm, if_pos (show est D A (gt (p ++ q) i) < b by omega), if_neg hle]
        rw [e]
        congr 2
        omega
theorem pc_beat1 {D : Nat} {A : AK} {Z : Nat → Nat} {S : Ob} {c : Nat → Int32} {g : Sg} {w p q : List Nat} {b n0 : Nat} (hA : okK D A) (hK : RK D A (S 2)) (hm : c 3 = nI 1) (hok : okL 3 (L3 w p q)) (hR : RW 3 (L3 w p q) Z g) (hb : b ≤ 16) (hn : n0 ≤ (p ++ q).length) : ∀ (n i s : Nat), i ≤ n0 → n0 - i < n → s ≤ 16 * i → f0_victimsBeaten_l25 (mkS S c g) n (nI n0) (nI b) (nI s) (nI i) = some (if s + uS (est D A) (((p ++ q).drop i).take (n0 - i)) < b then nI n0 else nI 0) := by
  have hlen := v_len hok
  intro n
  induction n with
  | zero => intro i s h1 h2; omega
  | succ n ih =>
    intro i s h1 h2 hs
    show f0_victimsBeaten_b25 (mkS S c g) (f0_victimsBeaten_l25 (mkS S c g) n) (nI n0) (nI b) (nI s) (nI i) = _
    unfold f0_victimsBeaten_b25 f0_victimsBeaten_j75
    by_cases hi : n0 ≤ i
    · rw [show n0 - i = 0 by omega, List.take_zero]
      show _ = some (if s + 0 < b then nI n0 else nI 0)
      by_cases hbs : b ≤ s
      · simp (disch := omega) only [rd_n, ck_n, wr_n, cl_n, st_e, b2_e, bd_e, ltp, lep, eqp, m1p, m1l, m1e, m1a, nI_add, pk_sub, pk_mul, dvp, nzp, up_s, up_x, up_01, if_true, if_false, Nat.not_lt_zero, Nat.zero_add, z_0, z_1, z_2, z_3, z_4, z_5, z_10, z_11, z_15, z_20, z_30, z_63, z_64, z_99, z_100, z_127, z_128, z_200, z_256, z_300, z_400, z_500, z_600, z_601, z_602, z_603, z_604, z_605, z_606, z_862, z_990, z_1000, z_1090, z_1390, z_1393, z_1394, z_1395, z_1396, z_1397, z_1398, z_1399, z_1400, z_1401, z_1402, z_1403, z_1404, z_1405, z_1705, z_1805, z_7220, if_pos hi, mk_1, hm, if_neg (show ¬ 1 = 0 by decide), if_pos hbs, if_neg (show ¬ s + 0 < b by omega)]
      · simp (disch := omega) only [rd_n, ck_n, wr_n, cl_n, st_e, b2_e, bd_e, ltp, lep, eqp, m1p, m1l, m1e, m1a, nI_add, pk_sub, pk_mul, dvp, nzp, up_s, up_x, up_01, if_true, if_false, Nat.not_lt_zero, Nat.zero_add, z_0, z_1, z_2, z_3, z_4, z_5, z_10, z_11, z_15, z_20, z_30, z_63, z_64, z_99, z_100, z_127, z_128, z_200, z_256, z_300, z_400, z_500, z_600, z_601, z_602, z_603, z_604, z_605, z_606, z_862, z_990, z_1000, z_1090, z_1390, z_1393, z_1394, z_1395, z_1396, z_1397, z_1398, z_1399, z_1400, z_1401, z_1402, z_1403, z_1404, z_1405, z_1705, z_1805, z_7220, if_pos hi, mk_1, hm, if_neg (show ¬ 1 = 0 by decide), if_neg hbs, if_pos (show s + 0 < b by omega)]
    · have hi2 : i < (p ++ q).length := by omega
      have hk := v_lt hok hi2
      have ev := pc_vict (S := S) (c := c) hok hR hi2
      have eg := pk_guess hA hK hk
      have hes := est_le (D := D) (A := A) (k := gt (p ++ q) i)
      rw [dr_c hi2, show n0 - i = (n0 - (i + 1)) + 1 by omega, List.take_succ_cons]
      have e := ih (i + 1) (s + est D A (gt (p ++ q) i)) (by omega) (by omega) (by omega)
      simp (disch := omega) only [rd_n, ck_n, wr_n, cl_n, st_e, b2_e, bd_e, ltp, lep, eqp, m1p, m1l, m1e, m1a, nI_add, pk_sub, pk_mul, dvp, nzp, up_s, up_x, up_01, if_true, if_false, Nat.not_lt_zero, Nat.zero_add, z_0, z_1, z_2, z_3, z_4, z_5, z_10, z_11, z_15, z_20, z_30, z_63, z_64, z_99, z_100, z_127, z_128, z_200, z_256, z_300, z_400, z_500, z_600, z_601, z_602, z_603, z_604, z_605, z_606, z_862, z_990, z_1000, z_1090, z_1390, z_1393, z_1394, z_1395, z_1396, z_1397, z_1398, z_1399, z_1400, z_1401, z_1402, z_1403, z_1404, z_1405, z_1705, z_1805, z_7220, if_neg hi, ev, mk_2, eg, mk_1, hm, if_neg (show ¬ 1 = 0 by decide)]
      rw [e]
      show some (if s + est D A (gt (p ++ q) i) + uS (est D A) (((p ++ q).drop (i + 1)).take (n0 - (i + 1))) < b then nI n0 else nI 0) = some (if s + (est D A (gt (p ++ q) i) + uS (est D A) (((p ++ q).drop (i + 1)).take (n0 - (i + 1)))) < b then nI n0 else nI 0)
      rw [Nat.add_assoc]
theorem pc_beat {D : Nat} {A : AK} {Z : Nat → Nat} {S : Ob} {c : Nat → Int32} {g : Sg} {w p q : List Nat} {C mode W k : Nat} {o : Int32} (hA : okK D A) (hK : RK D A (S 2)) (hmo : mode ≤ 2) (hc : RC C mode W o c) (hok : okL 3 (L3 w p q)) (hR : RW 3 (L3 w p q) Z g) (hk : k < 100) (most : Nat) : f0_victimsBeaten (mkS S c g) (nI k) (nI (jn0 Z most k (p ++ q))) = some (nI (jn1 Z (est D A) mode most k (p ++ q))) := by
  have hlen := v_len hok
  have hn := need_le (Z := Z) (p ++ q) (uS Z (p ++ q) + Z k - most)
  have hn : jn0 Z most k (p ++ q) ≤ (p ++ q).length := hn
  have eg := pk_guess hA hK hk
  have hes := est_le (D := D) (A := A) (k := k)
  unfold f0_victimsBeaten jn1
  rcases (show mode = 0 ∨ mode = 1 ∨ mode = 2 by omega) with rfl | rfl | rfl
  · have e := pc_beat0 (S := S) hA hK hc.2.1 hok hR hes hn NF 0 (nI 0) (by omega) (by show _ < 8000; omega)
    rw [Nat.zero_add, List.drop_zero, Nat.sub_zero] at e
    simp (disch := omega) only [rd_n, ck_n, wr_n, cl_n, st_e, b2_e, bd_e, ltp, lep, eqp, m1p, m1l, m1e, m1a, nI_add, pk_sub, pk_mul, dvp, nzp, up_s, up_x, up_01, if_true, if_false, Nat.not_lt_zero, Nat.zero_add, z_0, z_1, z_2, z_3, z_4, z_5, z_10, z_11, z_15, z_20, z_30, z_63, z_64, z_99, z_100, z_127, z_128, z_200, z_256, z_300, z_400, z_500, z_600, z_601, z_602, z_603, z_604, z_605, z_606, z_862, z_990, z_1000, z_1090, z_1390, z_1393, z_1394, z_1395, z_1396, z_1397, z_1398, z_1399, z_1400, z_1401, z_1402, z_1403, z_1404, z_1405, z_1705, z_1805, z_7220, mk_1, hc.2.1, if_neg (show ¬ 0 = 2 by decide), mk_2, eg]
    exact e
  · have e := pc_beat1 (S := S) hA hK hc.2.1 hok hR hes hn NF 0 0 (by omega) (by show _ < 8000; omega) (by omega)
    rw [Nat.zero_add, List.drop_zero, Nat.sub_zero] at e
    simp (disch := omega) only [rd_n, ck_n, wr_n, cl_n, st_e, b2_e, bd_e, ltp, lep, eqp, m1p, m1l, m1e, m1a, nI_add, pk_sub, pk_mul, dvp, nzp, up_s, up_x, up_01, if_true, if_false, Nat.not_lt_zero, Nat.zero_add, z_0, z_1, z_2, z_3, z_4, z_5, z_10, z_11, z_15, z_20, z_30, z_63, z_64, z_99, z_100, z_127, z_128, z_200, z_256, z_300, z_400, z_500, z_600, z_601, z_602, z_603, z_604, z_605, z_606, z_862, z_990, z_1000, z_1090, z_1390, z_1393, z_1394, z_1395, z_1396, z_1397, z_1398, z_1399, z_1400, z_1401, z_1402, z_1403, z_1404, z_1405, z_1705, z_1805, z_7220, mk_1, hc.2.1, if_neg (show ¬ 1 = 2 by decide), mk_2, eg, if_neg (show ¬ 1 = 0 by decide)]
    rw [e]
    split <;> rfl
  · simp (disch := omega) only [rd_n, ck_n, wr_n, cl_n, st_e, b2_e, bd_e, ltp, lep, eqp, m1p, m1l, m1e, m1a, nI_add, pk_sub, pk_mul, dvp, nzp, up_s, up_x, up_01, if_true, if_false, Nat.not_lt_zero, Nat.zero_add, z_0, z_1, z_2, z_3, z_4, z_5, z_10, z_11, z_15, z_20, z_30, z_63, z_64, z_99, z_100, z_127, z_128, z_200, z_256, z_300, z_400, z_500, z_600, z_601, z_602, z_603, z_604, z_605, z_606, z_862, z_990, z_1000, z_1090, z_1390, z_1393, z_1394, z_1395, z_1396, z_1397, z_1398, z_1399, z_1400, z_1401, z_1402, z_1403, z_1404, z_1405, z_1705, z_1805, z_7220, mk_1, hc.2.1]
theorem pc_spare {Z : Nat → Nat} {S : Ob} {c : Nat → Int32} {w : List Nat} {n0 a : Nat} (hZ : ∀ k, k < 100 → 1 ≤ Z k ∧ Z k ≤ 20) (ha : a ≤ n0) (hn : n0 ≤ 200) : ∀ (n i : Nat) (p q : List Nat) (g : Sg), i ≤ n0 → n0 - i < n → a - i ≤ p.length → (n0 - a) - (i - a) ≤ q.length → okL 3 (L3 w p q) → RW 3 (L3 w p q) Z g → ∃ g2, f0_spare_l16 n (nI n0) (nI a) (nI i) (mkS S c g) = some (mkS S c g2) ∧ RW 3 (L3 w (rotN (a - i) p) (rotN ((n0 - a) - (i - a)) q)) Z g2 ∧ okL 3 (L3 w (rotN (a - i) p) (rotN ((n0 - a) - (i - a)) q)) := by
  intro n
  induction n with
  | zero => intro i p q g h1 h2; omega
  | succ n ih =>
    intro i p q g h1 h2 h3 h4 hok hR
    show ∃ g2, f0_spare_b16 (f0_spare_l16 n) (nI n0) (nI a) (nI i) (mkS S c g) = some (mkS S c g2) ∧ _
    unfold f0_spare_b16
    by_cases hi : n0 ≤ i
    · rw [show a - i = 0 by omega, show (n0 - a) - (i - a) = 0 by omega]
      simp (disch := omega) only [rd_n, ck_n, wr_n, cl_n, st_e, b2_e, bd_e, ltp, lep, eqp, m1p, m1l, m1e, m1a, nI_add, pk_sub, pk_mul, dvp, nzp, up_s, up_x, up_01, if_true, if_false, Nat.not_lt_zero, Nat.zero_add, z_0, z_1, z_2, z_3, z_4, z_5, z_10, z_11, z_15, z_20, z_30, z_63, z_64, z_99, z_100, z_127, z_128, z_200, z_256, z_300, z_400, z_500, z_600, z_601, z_602, z_603, z_604, z_605, z_606, z_862, z_990, z_1000, z_1090, z_1390, z_1393, z_1394, z_1395, z_1396, z_1397, z_1398, z_1399, z_1400, z_1401, z_1402, z_1403, z_1404, z_1405, z_1705, z_1805, z_7220, if_pos hi]
      exact ⟨g, rfl, by simpa [rotN] using hR, by simpa [rotN] using hok⟩
    · by_cases hai : a ≤ i
      · match q, h4 with
        | [], h4 => simp at h4; omega
        | k :: q, h4 =>
          have hk := (ok_h2 hok).1
          have e8 : g 8 0 = nI k := hR.2.2.1 2 0 (by decide) (by simp [L3])
          obtain ⟨g1, f1, f2⟩ := pr_mov (r := 2) (by decide) (by decide) hok hZ hR hk
          have f3 := ok_mov hok (r := 2) hk
          rw [L3_m22 hok] at f2 f3
          obtain ⟨g2, d1, d2, d3⟩ := ih (i + 1) p (q ++ [k]) g1 (by omega) (by omega) (by omega) (by simp at h4 ⊢; omega) f3 f2
          rw [show a - (i + 1) = 0 by omega] at d2 d3
          rw [show a - i = 0 by omega, show (n0 - a) - (i - a) = ((n0 - a) - (i + 1 - a)) + 1 by omega]
          simp (disch := omega) only [rd_n, ck_n, wr_n, cl_n, st_e, b2_e, bd_e, ltp, lep, eqp, m1p, m1l, m1e, m1a, nI_add, pk_sub, pk_mul, dvp, nzp, up_s, up_x, up_01, if_true, if_false, Nat.not_lt_zero, Nat.zero_add, z_0, z_1, z_2, z_3, z_4, z_5, z_10, z_11, z_15, z_20, z_30, z_63, z_64, z_99, z_100, z_127, z_128, z_200, z_256, z_300, z_400, z_500, z_600, z_601, z_602, z_603, z_604, z_605, z_606, z_862, z_990, z_1000, z_1090, z_1390, z_1393, z_1394, z_1395, z_1396, z_1397, z_1398, z_1399, z_1400, z_1401, z_1402, z_1403, z_1404, z_1405, z_1705, z_1805, z_7220, if_neg hi, if_pos hai, mk_3, Nat.reduceAdd, e8, f1, mk_u3]
          exact ⟨g2, d1, d2, d3⟩
      · match p, h3 with
        | [], h3 => simp at h3; omega
        | k :: p, h3 =>
          have hk := (ok_h1 hok).1
          have e8 : g 7 0 = nI k := hR.2.2.1 1 0 (by decide) (by simp [L3])
          obtain ⟨g1, f1, f2⟩ := pr_mov (r := 1) (by decide) (by decide) hok hZ hR hk
          have f3 := ok_mov hok (r := 1) hk
          rw [L3_m11 hok] at f2 f3
          obtain ⟨g2, d1, d2, d3⟩ := ih (i + 1) (p ++ [k]) q g1 (by omega) (by omega) (by simp at h3 ⊢; omega) (by omega) f3 f2
          rw [show (n0 - a) - (i + 1 - a) = (n0 - a) - (i - a) by omega] at d2 d3
          rw [show a - i = (a - (i + 1)) + 1 by omega]
          simp (disch := omega) only [rd_n, ck_n, wr_n, cl_n, st_e, b2_e, bd_e, ltp, lep, eqp, m1p, m1l, m1e, m1a, nI_add, pk_sub, pk_mul, dvp, nzp, up_s, up_x, up_01, if_true, if_false, Nat.not_lt_zero, Nat.zero_add, z_0, z_1, z_2, z_3, z_4, z_5, z_10, z_11, z_15, z_20, z_30, z_63, z_64, z_99, z_100, z_127, z_128, z_200, z_256, z_300, z_400, z_500, z_600, z_601, z_602, z_603, z_604, z_605, z_606, z_862, z_990, z_1000, z_1090, z_1390, z_1393, z_1394, z_1395, z_1396, z_1397, z_1398, z_1399, z_1400, z_1401, z_1402, z_1403, z_1404, z_1405, z_1705, z_1805, z_7220, if_neg hi, if_neg hai, mk_3, Nat.reduceAdd, e8, f1, mk_u3]
          exact ⟨g2, d1, d2, d3⟩
theorem pc_judL {Z : Nat → Nat} {S : Ob} {w : List Nat} {k n0 n1 : Nat} (hZ : ∀ k, k < 100 → 1 ≤ Z k ∧ Z k ≤ 20) (hn : n1 ≤ 200) : ∀ (m n i : Nat) (p q : List Nat) (c : Nat → Int32) (g : Sg), i + m = n1 → m < n → m ≤ (p ++ q).length → okL 3 (L3 w p q) → RW 3 (L3 w p q) Z g → ∃ g2, f0_judge_l48 n (nI k) (nI n0) (nI n1) (nI i) (mkS S c g) = f0_judge_j82 (nI k) (nI n0) (nI n1) (mkS S (upd c 5 (c 5 + nI m)) g2) ∧ RW 3 (L3 w (p.drop m) (q.drop (m - p.length))) Z g2 ∧ okL 3 (L3 w (p.drop m) (q.drop (m - p.length))) := by
  intro m
  induction m with
  | zero =>
    intro n i p q c g h1 h2 h3 hok hR
    match n, h2 with
    | n + 1, _ =>
      show ∃ g2, f0_judge_b48 (f0_judge_l48 n) (nI k) (nI n0) (nI n1) (nI i) (mkS S c g) = _ ∧ _
      unfold f0_judge_b48
      have e : upd c 5 (c 5 + nI 0) = c := by
        funext j
        by_cases hj : j = 5
        · subst hj
          rw [ud_s, show nI 0 = 0 from rfl, Int32.add_zero]
        · rw [ud_n hj]
      rw [e]
      simp (disch := omega) only [rd_n, ck_n, wr_n, cl_n, st_e, b2_e, bd_e, ltp, lep, eqp, m1p, m1l, m1e, m1a, nI_add, pk_sub, pk_mul, dvp, nzp, up_s, up_x, up_01, if_true, if_false, Nat.not_lt_zero, Nat.zero_add, z_0, z_1, z_2, z_3, z_4, z_5, z_10, z_11, z_15, z_20, z_30, z_63, z_64, z_99, z_100, z_127, z_128, z_200, z_256, z_300, z_400, z_500, z_600, z_601, z_602, z_603, z_604, z_605, z_606, z_862, z_990, z_1000, z_1090, z_1390, z_1393, z_1394, z_1395, z_1396, z_1397, z_1398, z_1399, z_1400, z_1401, z_1402, z_1403, z_1404, z_1405, z_1705, z_1805, z_7220, if_pos (show n1 ≤ i by omega)]
      refine ⟨g, rfl, ?_, ?_⟩
      · simpa using hR
      · simpa using hok
  | succ m ih =>
    intro n i p q c g h1 h2 h3 hok hR
    match n, h2 with
    | n + 1, h2 =>
      show ∃ g2, f0_judge_b48 (f0_judge_l48 n) (nI k) (nI n0) (nI n1) (nI i) (mkS S c g) = _ ∧ _
      unfold f0_judge_b48
      have hv := pc_vict (S := S) (c := c) (i := 0) hok hR (by omega)
      have ec : ∀ (d : Nat → Int32) (v : Int32), upd (upd c 5 (c 5 + nI 1)) 5 (upd c 5 (c 5 + nI 1) 5 + nI m) = upd c 5 (c 5 + nI (m + 1)) := by
        intro d v
        funext j
        by_cases hj : j = 5
        · subst hj
          rw [ud_s, ud_s, ud_s, oad, Nat.add_comm]
        · rw [ud_n hj, ud_n hj, ud_n hj]
      match p, hok, hR, h3, hv with
      | kk :: p, hok, hR, h3, hv =>
        have hv : f0_victimAt (mkS S c g) (nI 0) = some (nI kk) := hv
        have hk := (ok_h1 hok).1
        obtain ⟨g1, f1, f2⟩ := pr_take (by decide) hok hZ hR hk
        have f3 := ok_out hok kk
        rw [L3_d1 hok] at f2 f3
        obtain ⟨g2, d1, d2, d3⟩ := ih n (i + 1) p q (upd c 5 (c 5 + nI 1)) g1 (by omega) (by omega) (by simp at h3 ⊢; omega) f3 f2
        rw [ec c 0] at d1
        simp (disch := omega) only [rd_n, ck_n, wr_n, cl_n, st_e, b2_e, bd_e, ltp, lep, eqp, m1p, m1l, m1e, m1a, nI_add, pk_sub, pk_mul, dvp, nzp, up_s, up_x, up_01, if_true, if_false, Nat.not_lt_zero, Nat.zero_add, z_0, z_1, z_2, z_3, z_4, z_5, z_10, z_11, z_15, z_20, z_30, z_63, z_64, z_99, z_100, z_127, z_128, z_200, z_256, z_300, z_400, z_500, z_600, z_601, z_602, z_603, z_604, z_605, z_606, z_862, z_990, z_1000, z_1090, z_1390, z_1393, z_1394, z_1395, z_1396, z_1397, z_1398, z_1399, z_1400, z_1401, z_1402, z_1403, z_1404, z_1405, z_1705, z_1805, z_7220, if_neg (show ¬ n1 ≤ i by omega), hv, mk_3, f1, mk_u3, mk_1, mk_u1]
        refine ⟨g2, d1, ?_, ?_⟩
        · rw [List.length_cons, Nat.add_sub_add_right]
          exact d2
        · rw [List.length_cons, Nat.add_sub_add_right]
          exact d3
      | [], hok, hR, h3, hv =>
        match q, hok, hR, h3, hv with
        | [], hok, hR, h3, hv => simp at h3
        | kk :: q, hok, hR, h3, hv =>
          have hv : f0_victimAt (mkS S c g) (nI 0) = some (nI kk) := hv
          have hk := (ok_h2 hok).1
          obtain ⟨g1, f1, f2⟩ := pr_take (by decide) hok hZ hR hk
          have f3 := ok_out hok kk
          rw [L3_d2 hok] at f2 f3
          obtain ⟨g2, d1, d2, d3⟩ := ih n (i + 1) [] q (upd c 5 (c 5 + nI 1)) g1 (by omega) (by omega) (by simp at h3 ⊢; omega) f3 f2
          rw [ec c 0] at d1
          simp (disch := omega) only [rd_n, ck_n, wr_n, cl_n, st_e, b2_e, bd_e, ltp, lep, eqp, m1p, m1l, m1e, m1a, nI_add, pk_sub, pk_mul, dvp, nzp, up_s, up_x, up_01, if_true, if_false, Nat.not_lt_zero, Nat.zero_add, z_0, z_1, z_2, z_3, z_4, z_5, z_10, z_11, z_15, z_20, z_30, z_63, z_64, z_99, z_100, z_127, z_128, z_200, z_256, z_300, z_400, z_500, z_600, z_601, z_602, z_603, z_604, z_605, z_606, z_862, z_990, z_1000, z_1090, z_1390, z_1393, z_1394, z_1395, z_1396, z_1397, z_1398, z_1399, z_1400, z_1401, z_1402, z_1403, z_1404, z_1405, z_1705, z_1805, z_7220, if_neg (show ¬ n1 ≤ i by omega), hv, mk_3, f1, mk_u3, mk_1, mk_u1]
          refine ⟨g2, d1, ?_, ?_⟩
          · simpa using d2
          · simpa using d3
