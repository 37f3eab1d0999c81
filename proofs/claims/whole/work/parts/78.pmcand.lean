theorem pm_cand {D : Nat} {A : AK} {Z : Nat → Nat} {g : Sg} {x : Nat → Int32} {w p q : List Nat} {C mode W k : Nat} (hA : okK D A) (h0 : g 0 0 = nI D) (h1 : g 0 1 = nI C) (hZ : ∀ k, k < 100 → 1 ≤ Z k ∧ Z k ≤ 20) (hC : C ≤ 200) (hW : W ≤ C) (hmo : mode ≤ 2) (hk : k < 100) (hok : okL 3 (L3 w p q)) (hR : RQ (L3 w p q) Z x) (hN : RN A x) (hm : x 603 = nI mode) (hx : x 1393 = nI W) (hkn : ∀ r, r < 3 → k ∉ L3 w p q r) : ∃ y, f11_candidate (nI k) (va_up g 1 x) = some (va_up g 1 y) ∧ RQ (L3 w (jd Z (est D A) mode (C - W) k p q).1 (jd Z (est D A) mode (C - W) k p q).2.1) Z y ∧ OF x y ∧ y 1399 = x 1399 + nI (jd Z (est D A) mode (C - W) k p q).2.2 := by
  have hus := v_us hok hZ
  have hzk := hZ k hk
  have hlen := v_len hok
  have e9 := hR.2.2 k hk
  have em := pm_main (g := va_up g 1 x) hok hR
  unfold f11_candidate
  by_cases hsz : C - W < Z k
  · have hj : jd Z (est D A) mode (C - W) k p q = (p, q, 1) := if_pos hsz
    rw [hj]
    simp (disch := omega) only [rd_n, ck_n, wr_n, cl_n, st_e, b2_e, bd_e, ltp, lep, eqp, m1p, m1l, m1e, m1a, nI_add, pk_sub, pk_mul, dvp, nzp, up_s, up_x, up_01, if_true, if_false, Nat.not_lt_zero, Nat.zero_add, z_0, z_1, z_2, z_3, z_4, z_5, z_10, z_11, z_15, z_20, z_30, z_63, z_64, z_99, z_100, z_127, z_128, z_200, z_256, z_300, z_400, z_500, z_600, z_601, z_602, z_603, z_604, z_605, z_606, z_862, z_990, z_1000, z_1090, z_1390, z_1393, z_1394, z_1395, z_1396, z_1397, z_1398, z_1399, z_1400, z_1401, z_1402, z_1403, z_1404, z_1405, z_1705, z_1805, z_7220, hx, e9, h1, if_neg (show ¬ Z k ≤ C - W by omega)]
    exact ⟨_, rfl, hR.fr hok (fun j h1 h2 => by rw [ud_n (by omega)]), of_u, by rw [ud_s]⟩
  · by_cases hm1 : mode = 1
    · subst hm1
      by_cases hl : uS Z (p ++ q) + Z k ≤ C - W
      · obtain ⟨y, c1, c2⟩ := pm_candL (g := g) (mode := 1) (most := C - W) (k := k) hA h0 hZ hmo (by omega) hk (by omega) (p ++ q).length p q x NF rfl (by show _ < 8000; omega) hok hR hN hm hkn (fun _ => hl)
        simp (disch := omega) only [rd_n, ck_n, wr_n, cl_n, st_e, b2_e, bd_e, ltp, lep, eqp, m1p, m1l, m1e, m1a, nI_add, pk_sub, pk_mul, dvp, nzp, up_s, up_x, up_01, if_true, if_false, Nat.not_lt_zero, Nat.zero_add, z_0, z_1, z_2, z_3, z_4, z_5, z_10, z_11, z_15, z_20, z_30, z_63, z_64, z_99, z_100, z_127, z_128, z_200, z_256, z_300, z_400, z_500, z_600, z_601, z_602, z_603, z_604, z_605, z_606, z_862, z_990, z_1000, z_1090, z_1390, z_1393, z_1394, z_1395, z_1396, z_1397, z_1398, z_1399, z_1400, z_1401, z_1402, z_1403, z_1404, z_1405, z_1705, z_1805, z_7220, hx, e9, h1, if_pos (show Z k ≤ C - W by omega), hm, em, if_pos hl]
        exact ⟨y, c1, c2⟩
      · obtain ⟨y, c1, c2⟩ := pm_tog (g := g) (most := C - W) (k := k) hA h0 hZ (by omega) hk (by omega) hok hR hN hkn (by omega)
        simp (disch := omega) only [rd_n, ck_n, wr_n, cl_n, st_e, b2_e, bd_e, ltp, lep, eqp, m1p, m1l, m1e, m1a, nI_add, pk_sub, pk_mul, dvp, nzp, up_s, up_x, up_01, if_true, if_false, Nat.not_lt_zero, Nat.zero_add, z_0, z_1, z_2, z_3, z_4, z_5, z_10, z_11, z_15, z_20, z_30, z_63, z_64, z_99, z_100, z_127, z_128, z_200, z_256, z_300, z_400, z_500, z_600, z_601, z_602, z_603, z_604, z_605, z_606, z_862, z_990, z_1000, z_1090, z_1390, z_1393, z_1394, z_1395, z_1396, z_1397, z_1398, z_1399, z_1400, z_1401, z_1402, z_1403, z_1404, z_1405, z_1705, z_1805, z_7220, hx, e9, h1, if_pos (show Z k ≤ C - W by omega), hm, em, if_neg hl, c1]
        exact ⟨y, rfl, c2⟩
    · obtain ⟨y, c1, c2⟩ := pm_candL (g := g) (mode := mode) (most := C - W) (k := k) hA h0 hZ hmo (by omega) hk (by omega) (p ++ q).length p q x NF rfl (by show _ < 8000; omega) hok hR hN hm hkn (fun e => absurd e hm1)
      simp (disch := omega) only [rd_n, ck_n, wr_n, cl_n, st_e, b2_e, bd_e, ltp, lep, eqp, m1p, m1l, m1e, m1a, nI_add, pk_sub, pk_mul, dvp, nzp, up_s, up_x, up_01, if_true, if_false, Nat.not_lt_zero, Nat.zero_add, z_0, z_1, z_2, z_3, z_4, z_5, z_10, z_11, z_15, z_20, z_30, z_63, z_64, z_99, z_100, z_127, z_128, z_200, z_256, z_300, z_400, z_500, z_600, z_601, z_602, z_603, z_604, z_605, z_606, z_862, z_990, z_1000, z_1090, z_1390, z_1393, z_1394, z_1395, z_1396, z_1397, z_1398, z_1399, z_1400, z_1401, z_1402, z_1403, z_1404, z_1405, z_1705, z_1805, z_7220, hx, e9, h1, if_pos (show Z k ≤ C - W by omega), hm, if_neg hm1]
      exact ⟨y, c1, c2⟩
theorem jd_ok {Z e : Nat → Nat} {mode most k : Nat} {w p q : List Nat} (hk : k < 100) (hok : okL 3 (L3 w p q)) (hkn : ∀ r, r < 3 → k ∉ L3 w p q r) : okL 3 (L3 w (jd Z e mode most k p q).1 (jd Z e mode most k p q).2.1) := by
  have hdrop : ∀ (n : Nat) (p q : List Nat), okL 3 (L3 w p q) → okL 3 (L3 w (p.drop n) (q.drop (n - p.length))) := by
    intro n
    induction n with
    | zero => intro p q h; simpa using h
    | succ n ih =>
      intro p q h
      match p, q, h with
      | kk :: p, q, h =>
        rw [List.length_cons, Nat.add_sub_add_right]
        exact ih p q (by rw [← L3_d1 h]; exact ok_out h kk)
      | [], kk :: q, h =>
        have := ih [] q (by rw [← L3_d2 h]; exact ok_out h kk)
        simpa using this
      | [], [], h => simpa using h
  have hr1 : ∀ (n : Nat) (p q : List Nat), okL 3 (L3 w p q) → okL 3 (L3 w (rotN n p) q) := by
    intro n
    induction n with
    | zero => intro p q h; rw [rot_0]; exact h
    | succ n ih =>
      intro p q h
      match p, h with
      | [], h => exact h
      | kk :: p, h =>
        exact ih (p ++ [kk]) q (by rw [← L3_m11 h]; exact ok_mov h (ok_h1 h).1)
  have hr2 : ∀ (n : Nat) (p q : List Nat), okL 3 (L3 w p q) → okL 3 (L3 w p (rotN n q)) := by
    intro n
    induction n with
    | zero => intro p q h; rw [rot_0]; exact h
    | succ n ih =>
      intro p q h
      match q, h with
      | [], h => exact h
      | kk :: q, h =>
        exact ih p (q ++ [kk]) (by rw [← L3_m22 h]; exact ok_mov h (ok_h2 h).1)
  unfold jd
  split
  · exact hok
  · split
    · have h1 := hdrop (jn0 Z most k (p ++ q)) p q hok
      have h2 := ok_app (r := 1) (k := k) h1 hk (lt3 (fun h => hkn 0 (by decide) h) (fun h => hkn 1 (by decide) (List.mem_of_mem_drop h)) (fun h => hkn 2 (by decide) (List.mem_of_mem_drop h)))
      rw [L3_a1] at h2
      exact h2
    · split
      · exact hr2 _ _ _ (hr1 _ _ _ hok)
      · exact hdrop _ p q hok
theorem pm_ovfL {D : Nat} {A : AK} {Z : Nat → Nat} {g : Sg} {C mode W : Nat} (hA : okK D A) (h0 : g 0 0 = nI D) (h1 : g 0 1 = nI C) (hZ : ∀ k, k < 100 → 1 ≤ Z k ∧ Z k ≤ 20) (hC : C ≤ 200) (hW : W ≤ C) (hmo : mode ≤ 2) : ∀ (w p q : List Nat) (x : Nat → Int32) (n : Nat), okL 3 (L3 w p q) → RQ (L3 w p q) Z x → RN A x → x 603 = nI mode → x 1393 = nI W → w.length < n → ∃ y, f11_overflow_l0 n (va_up g 1 x) = some (va_up g 1 y) ∧ RQ (L3 (ovf Z (est D A) mode C W w p q).1 (ovf Z (est D A) mode C W w p q).2.1 (ovf Z (est D A) mode C W w p q).2.2.1) Z y ∧ OF x y ∧ y 1399 = x 1399 + nI (ovf Z (est D A) mode C W w p q).2.2.2 := by
  intro w
  induction w with
  | nil =>
    intro p q x n hok hR hN hm hx hn
    match n, hn with
    | n + 1, _ =>
      refine ⟨x, ?_, hR, fun _ _ => rfl, (Int32.add_zero _).symm⟩
      show f11_overflow_b0 (f11_overflow_l0 n) (va_up g 1 x) = _
      unfold f11_overflow_b0
      have eu : f11_units (va_up g 1 x) (nI 0) = some (nI 0) := pm_units (L := L3 [] p q) (r := 0) (by decide) hok hR
      simp (disch := omega) only [rd_n, ck_n, wr_n, cl_n, st_e, b2_e, bd_e, ltp, lep, eqp, m1p, m1l, m1e, m1a, nI_add, pk_sub, pk_mul, dvp, nzp, up_s, up_x, up_01, if_true, if_false, Nat.not_lt_zero, Nat.zero_add, z_0, z_1, z_2, z_3, z_4, z_5, z_10, z_11, z_15, z_20, z_30, z_63, z_64, z_99, z_100, z_127, z_128, z_200, z_256, z_300, z_400, z_500, z_600, z_601, z_602, z_603, z_604, z_605, z_606, z_862, z_990, z_1000, z_1090, z_1390, z_1393, z_1394, z_1395, z_1396, z_1397, z_1398, z_1399, z_1400, z_1401, z_1402, z_1403, z_1404, z_1405, z_1705, z_1805, z_7220, eu, hx, if_pos (show 0 ≤ W by omega)]
  | cons k w ih =>
    intro p q x n hok hR hN hm hx hn
    match n, hn with
    | n + 1, hn =>
      have hus : uS Z (k :: w) ≤ 2000 := hok.us hZ (r := 0) (by decide)
      have eu : f11_units (va_up g 1 x) (nI 0) = some (nI (uS Z (k :: w))) := pm_units (L := L3 (k :: w) p q) (r := 0) (by decide) hok hR
      have hk := (ok_h0 hok).1
      show ∃ y, f11_overflow_b0 (f11_overflow_l0 n) (va_up g 1 x) = some (va_up g 1 y) ∧ _
      unfold f11_overflow_b0
      by_cases h : uS Z (k :: w) ≤ W
      · have hs : ovf Z (est D A) mode C W (k :: w) p q = (k :: w, p, q, 0) := if_pos h
        rw [hs]
        simp (disch := omega) only [rd_n, ck_n, wr_n, cl_n, st_e, b2_e, bd_e, ltp, lep, eqp, m1p, m1l, m1e, m1a, nI_add, pk_sub, pk_mul, dvp, nzp, up_s, up_x, up_01, if_true, if_false, Nat.not_lt_zero, Nat.zero_add, z_0, z_1, z_2, z_3, z_4, z_5, z_10, z_11, z_15, z_20, z_30, z_63, z_64, z_99, z_100, z_127, z_128, z_200, z_256, z_300, z_400, z_500, z_600, z_601, z_602, z_603, z_604, z_605, z_606, z_862, z_990, z_1000, z_1090, z_1390, z_1393, z_1394, z_1395, z_1396, z_1397, z_1398, z_1399, z_1400, z_1401, z_1402, z_1403, z_1404, z_1405, z_1705, z_1805, z_7220, eu, hx, if_pos h]
        exact ⟨x, rfl, hR, fun _ _ => rfl, (Int32.add_zero _).symm⟩
      · have hs : ovf Z (est D A) mode C W (k :: w) p q = ((ovf Z (est D A) mode C W w (jd Z (est D A) mode (C - W) k p q).1 (jd Z (est D A) mode (C - W) k p q).2.1).1, (ovf Z (est D A) mode C W w (jd Z (est D A) mode (C - W) k p q).1 (jd Z (est D A) mode (C - W) k p q).2.1).2.1, (ovf Z (est D A) mode C W w (jd Z (est D A) mode (C - W) k p q).1 (jd Z (est D A) mode (C - W) k p q).2.1).2.2.1, (jd Z (est D A) mode (C - W) k p q).2.2 + (ovf Z (est D A) mode C W w (jd Z (est D A) mode (C - W) k p q).1 (jd Z (est D A) mode (C - W) k p q).2.1).2.2.2) := if_neg h
        rw [hs]
        obtain ⟨y1, a1, a2, a3, a4⟩ := pm_tk0 (g := g) hok hR
        have hnm : ∀ r, r < 3 → k ∉ L3 w p q r := fun r hr => by rw [← L3_d0 hok]; exact out_nm hok hr
        obtain ⟨y2, b1, b2, b3, b4⟩ := pm_cand (g := g) hA h0 h1 hZ hC hW hmo hk a4 a2 (a3.o.n hN) (by rw [a3 _ (by omega)]; exact hm) (by rw [a3 _ (by omega)]; exact hx) hnm
        have hj := jd_ok (Z := Z) (e := est D A) (mode := mode) (most := C - W) hk a4 hnm
        have ho := a3.o.t b3
        obtain ⟨y3, i1, i2, i3, i4⟩ := ih _ _ y2 n hj b2 (ho.n hN) (by rw [ho _ (by omega)]; exact hm) (by rw [ho _ (by omega)]; exact hx) (by simp at hn; omega)
        simp (disch := omega) only [rd_n, ck_n, wr_n, cl_n, st_e, b2_e, bd_e, ltp, lep, eqp, m1p, m1l, m1e, m1a, nI_add, pk_sub, pk_mul, dvp, nzp, up_s, up_x, up_01, if_true, if_false, Nat.not_lt_zero, Nat.zero_add, z_0, z_1, z_2, z_3, z_4, z_5, z_10, z_11, z_15, z_20, z_30, z_63, z_64, z_99, z_100, z_127, z_128, z_200, z_256, z_300, z_400, z_500, z_600, z_601, z_602, z_603, z_604, z_605, z_606, z_862, z_990, z_1000, z_1090, z_1390, z_1393, z_1394, z_1395, z_1396, z_1397, z_1398, z_1399, z_1400, z_1401, z_1402, z_1403, z_1404, z_1405, z_1705, z_1805, z_7220, eu, hx, if_neg h, a1, b1]
        refine ⟨y3, i1, i2, ho.t i3, ?_⟩
        rw [i4, b4, a3 _ (by omega), oad]
theorem pm_ovf {D : Nat} {A : AK} {Z : Nat → Nat} {g : Sg} {C mode W : Nat} {w p q : List Nat} {x : Nat → Int32} (hA : okK D A) (h0 : g 0 0 = nI D) (h1 : g 0 1 = nI C) (hZ : ∀ k, k < 100 → 1 ≤ Z k ∧ Z k ≤ 20) (hC : C ≤ 200) (hW : W ≤ C) (hmo : mode ≤ 2) (hok : okL 3 (L3 w p q)) (hR : RQ (L3 w p q) Z x) (hN : RN A x) (hm : x 603 = nI mode) (hx : x 1393 = nI W) : ∃ y, f11_overflow (va_up g 1 x) = some (va_up g 1 y) ∧ RQ (L3 (ovf Z (est D A) mode C W w p q).1 (ovf Z (est D A) mode C W w p q).2.1 (ovf Z (est D A) mode C W w p q).2.2.1) Z y ∧ OF x y ∧ y 1399 = x 1399 + nI (ovf Z (est D A) mode C W w p q).2.2.2 := by
  have hlen : w.length ≤ 100 := hok.len (r := 0) (by decide)
  exact pm_ovfL (g := g) hA h0 h1 hZ hC hW hmo w p q x NF hok hR hN hm hx (by show _ < 8000; omega)
/-! the main parts give up their first keys to the window while they are too large -/
def splq (Z : Nat → Nat) (most : Nat) : List Nat → List Nat → List Nat × List Nat
  | w, [] => (w, [])
  | w, k :: q => if uS Z (k :: q) ≤ most then (w, k :: q) else splq Z most (w ++ [k]) q
def spl (Z : Nat → Nat) (most : Nat) : List Nat → List Nat → List Nat → List Nat × List Nat × List Nat
  | w, [], q => ((splq Z most w q).1, [], (splq Z most w q).2)
  | w, k :: p, q => if uS Z (k :: p ++ q) ≤ most then (w, k :: p, q) else spl Z most (w ++ [k]) p q
