/-! the three parts: what the document does to them -/
theorem L3_out {w p q : List Nat} {k : Nat} : outL (L3 w p q) k = L3 (w.erase k) (p.erase k) (q.erase k) := by
  funext r
  match r with
  | 0 => rfl
  | 1 => rfl
  | 2 => rfl
  | _ + 3 => rfl
theorem L3_a0 {w p q : List Nat} {k : Nat} : appL (L3 w p q) 0 k = L3 (w ++ [k]) p q := by
  funext r
  match r with
  | 0 => rfl
  | 1 => rfl
  | 2 => rfl
  | _ + 3 => rfl
theorem L3_a1 {w p q : List Nat} {k : Nat} : appL (L3 w p q) 1 k = L3 w (p ++ [k]) q := by
  funext r
  match r with
  | 0 => rfl
  | 1 => rfl
  | 2 => rfl
  | _ + 3 => rfl
theorem L3_a2 {w p q : List Nat} {k : Nat} : appL (L3 w p q) 2 k = L3 w p (q ++ [k]) := by
  funext r
  match r with
  | 0 => rfl
  | 1 => rfl
  | 2 => rfl
  | _ + 3 => rfl
theorem L3_e0 {w p q : List Nat} {i : Nat} : eiL (L3 w p q) 0 i = L3 (w.eraseIdx i) p q := by
  funext r
  match r with
  | 0 => rfl
  | 1 => rfl
  | 2 => rfl
  | _ + 3 => rfl
theorem L3_e1 {w p q : List Nat} {i : Nat} : eiL (L3 w p q) 1 i = L3 w (p.eraseIdx i) q := by
  funext r
  match r with
  | 0 => rfl
  | 1 => rfl
  | 2 => rfl
  | _ + 3 => rfl
theorem L3_e2 {w p q : List Nat} {i : Nat} : eiL (L3 w p q) 2 i = L3 w p (q.eraseIdx i) := by
  funext r
  match r with
  | 0 => rfl
  | 1 => rfl
  | 2 => rfl
  | _ + 3 => rfl
theorem er_h {k : Nat} {l : List Nat} : (k :: l).erase k = l := List.erase_cons_head ..
theorem ok_h0 {w p q : List Nat} {k : Nat} (h : okL 3 (L3 (k :: w) p q)) : k < 100 ∧ p.erase k = p ∧ q.erase k = q :=
  ⟨(h.1 0 (by decide)).2 k (by simp [L3]), List.erase_of_not_mem (fun e => absurd (h.2 0 1 k (by decide) (by decide) (by simp [L3]) e) (by decide)), List.erase_of_not_mem (fun e => absurd (h.2 0 2 k (by decide) (by decide) (by simp [L3]) e) (by decide))⟩
theorem ok_h1 {w p q : List Nat} {k : Nat} (h : okL 3 (L3 w (k :: p) q)) : k < 100 ∧ w.erase k = w ∧ q.erase k = q :=
  ⟨(h.1 1 (by decide)).2 k (by simp [L3]), List.erase_of_not_mem (fun e => absurd (h.2 1 0 k (by decide) (by decide) (by simp [L3]) e) (by decide)), List.erase_of_not_mem (fun e => absurd (h.2 1 2 k (by decide) (by decide) (by simp [L3]) e) (by decide))⟩
theorem ok_h2 {w p q : List Nat} {k : Nat} (h : okL 3 (L3 w p (k :: q))) : k < 100 ∧ w.erase k = w ∧ p.erase k = p :=
  ⟨(h.1 2 (by decide)).2 k (by simp [L3]), List.erase_of_not_mem (fun e => absurd (h.2 2 0 k (by decide) (by decide) (by simp [L3]) e) (by decide)), List.erase_of_not_mem (fun e => absurd (h.2 2 1 k (by decide) (by decide) (by simp [L3]) e) (by decide))⟩
theorem L3_d0 {w p q : List Nat} {k : Nat} (h : okL 3 (L3 (k :: w) p q)) : outL (L3 (k :: w) p q) k = L3 w p q := by
  rw [L3_out, er_h, (ok_h0 h).2.1, (ok_h0 h).2.2]
theorem L3_d1 {w p q : List Nat} {k : Nat} (h : okL 3 (L3 w (k :: p) q)) : outL (L3 w (k :: p) q) k = L3 w p q := by
  rw [L3_out, er_h, (ok_h1 h).2.1, (ok_h1 h).2.2]
theorem L3_d2 {w p q : List Nat} {k : Nat} (h : okL 3 (L3 w p (k :: q))) : outL (L3 w p (k :: q)) k = L3 w p q := by
  rw [L3_out, er_h, (ok_h2 h).2.1, (ok_h2 h).2.2]
theorem L3_m21 {w p q : List Nat} {k : Nat} (h : okL 3 (L3 w p (k :: q))) : movL (L3 w p (k :: q)) 1 k = L3 w (p ++ [k]) q := by
  rw [movL, L3_d2 h, L3_a1]
theorem L3_m22 {w p q : List Nat} {k : Nat} (h : okL 3 (L3 w p (k :: q))) : movL (L3 w p (k :: q)) 2 k = L3 w p (q ++ [k]) := by
  rw [movL, L3_d2 h, L3_a2]
theorem L3_m11 {w p q : List Nat} {k : Nat} (h : okL 3 (L3 w (k :: p) q)) : movL (L3 w (k :: p) q) 1 k = L3 w (p ++ [k]) q := by
  rw [movL, L3_d1 h, L3_a1]
theorem L3_m10 {w p q : List Nat} {k : Nat} (h : okL 3 (L3 w (k :: p) q)) : movL (L3 w (k :: p) q) 0 k = L3 (w ++ [k]) p q := by
  rw [movL, L3_d1 h, L3_a0]
theorem L3_m20 {w p q : List Nat} {k : Nat} (h : okL 3 (L3 w p (k :: q))) : movL (L3 w p (k :: q)) 0 k = L3 (w ++ [k]) p q := by
  rw [movL, L3_d2 h, L3_a0]
/-- the protected part gives up its first keys to the probation part while it is too large -/
def setl (Z : Nat → Nat) (lim : Nat) : List Nat → List Nat → List Nat × List Nat
  | p, [] => (p, [])
  | p, k :: q => if uS Z (k :: q) ≤ lim then (p, k :: q) else setl Z lim (p ++ [k]) q
/-! the class: its cache's numbers c, its rows g -/
def mkS (S : Ob) (c : Nat → Int32) (g : Sg) : Ob := va_up (va_up S 1 (va_up (S 1) 0 c)) 3 g
theorem mk_3 {S : Ob} {c : Nat → Int32} {g : Sg} : mkS S c g 3 = g := up_s
theorem mk_1 {S : Ob} {c : Nat → Int32} {g : Sg} : mkS S c g 1 0 = c := by
  unfold mkS
  rw [up_n (by decide), up_s, up_s]
theorem mk_2 {S : Ob} {c : Nat → Int32} {g : Sg} : mkS S c g 2 = S 2 := by
  unfold mkS
  rw [up_n (by decide), up_n (by decide)]
theorem mk_u3 {S : Ob} {c : Nat → Int32} {g h : Sg} : va_up (mkS S c g) 3 h = mkS S c h := up_x
theorem mk_u1 {S : Ob} {c d : Nat → Int32} {g : Sg} : va_up (mkS S c g) 1 (va_up (mkS S c g 1) 0 d) = mkS S d g := by
  funext i
  unfold mkS
  by_cases e : i = 1
  · subst e
    rw [up_s, up_n (show (1 : Nat) ≠ 3 by decide), up_s, up_n (show (1 : Nat) ≠ 3 by decide), up_s, up_x]
  · rw [up_n e]
    by_cases e3 : i = 3
    · subst e3
      rw [up_s, up_s]
    · rw [up_n e3, up_n e, up_n e3, up_n e]
theorem mk_id {S : Ob} : mkS S (S 1 0) (S 3) = S := by
  unfold mkS
  rw [up_id, up_id, up_id]
/-- capacity, mode, window, outs -/
def RC (C mode W : Nat) (o : Int32) (c : Nat → Int32) : Prop := c 2 = nI C ∧ c 3 = nI mode ∧ c 4 = nI W ∧ c 5 = o
theorem pc_settleL {Z : Nat → Nat} {lim : Nat} {S : Ob} {c : Nat → Int32} {w : List Nat} (hZ : ∀ k, k < 100 → 1 ≤ Z k ∧ Z k ≤ 20) (hl : lim < 1000) : ∀ (q p : List Nat) (g : Sg) (n : Nat), okL 3 (L3 w p q) → RW 3 (L3 w p q) Z g → q.length < n → ∃ g2, f0_settle_l15 n (nI lim) (nI q.length) (mkS S c g) = some (mkS S c g2) ∧ RW 3 (L3 w (setl Z lim p q).1 (setl Z lim p q).2) Z g2 ∧ okL 3 (L3 w (setl Z lim p q).1 (setl Z lim p q).2) := by
  intro q
  induction q with
  | nil =>
    intro p g n hok hR hn
    match n, hn with
    | n + 1, _ =>
      refine ⟨g, ?_, hR, hok⟩
      show f0_settle_b15 (f0_settle_l15 n) (nI lim) (nI 0) _ = _
      unfold f0_settle_b15
      simp (disch := omega) only [rd_n, ck_n, wr_n, cl_n, st_e, b2_e, bd_e, ltp, lep, eqp, m1p, m1l, m1e, m1a, nI_add, pk_sub, pk_mul, dvp, nzp, up_s, up_x, up_01, if_true, if_false, Nat.not_lt_zero, Nat.zero_add, z_0, z_1, z_2, z_3, z_4, z_5, z_10, z_11, z_15, z_20, z_30, z_63, z_64, z_99, z_100, z_127, z_128, z_200, z_256, z_300, z_400, z_500, z_600, z_601, z_602, z_603, z_604, z_605, z_606, z_862, z_990, z_1000, z_1090, z_1390, z_1393, z_1394, z_1395, z_1396, z_1397, z_1398, z_1399, z_1400, z_1401, z_1402, z_1403, z_1404, z_1405, z_1705, z_1805, z_7220, Nat.le_refl]
  | cons k q ih =>
    intro p g n hok hR hn
    match n, hn with
    | n + 1, hn =>
      have hlen := hok.len (r := 2) (by decide)
      have hus := hok.us hZ (r := 2) (by decide)
      have hlen : q.length + 1 ≤ 100 := hlen
      have hus : uS Z (k :: q) ≤ 2000 := hus
      have e3 : g 3 2 = nI (uS Z (k :: q)) := hR.2.1 2 (by decide)
      have e8 : g 8 0 = nI k := hR.2.2.1 2 0 (by decide) (by simp [L3])
      have hk := (ok_h2 hok).1
      show ∃ g2, f0_settle_b15 (f0_settle_l15 n) (nI lim) (nI (q.length + 1)) _ = some (mkS S c g2) ∧ _
      unfold f0_settle_b15
      have hl1 : ¬ q.length + 1 ≤ 0 := by omega
      by_cases h : uS Z (k :: q) ≤ lim
      · have hs : setl Z lim p (k :: q) = (p, k :: q) := if_pos h
        rw [hs]
        simp (disch := omega) only [rd_n, ck_n, wr_n, cl_n, st_e, b2_e, bd_e, ltp, lep, eqp, m1p, m1l, m1e, m1a, nI_add, pk_sub, pk_mul, dvp, nzp, up_s, up_x, up_01, if_true, if_false, Nat.not_lt_zero, Nat.zero_add, z_0, z_1, z_2, z_3, z_4, z_5, z_10, z_11, z_15, z_20, z_30, z_63, z_64, z_99, z_100, z_127, z_128, z_200, z_256, z_300, z_400, z_500, z_600, z_601, z_602, z_603, z_604, z_605, z_606, z_862, z_990, z_1000, z_1090, z_1390, z_1393, z_1394, z_1395, z_1396, z_1397, z_1398, z_1399, z_1400, z_1401, z_1402, z_1403, z_1404, z_1405, z_1705, z_1805, z_7220, mk_3, if_neg hl1, e3, if_neg (show ¬ lim < uS Z (k :: q) by omega)]
        exact ⟨g, rfl, hR, hok⟩
      · have hs : setl Z lim p (k :: q) = setl Z lim (p ++ [k]) q := if_neg h
        rw [hs]
        obtain ⟨g1, f1, f2⟩ := pr_mov (r := 1) (by decide) (by decide) hok hZ hR hk
        have f3 := ok_mov hok (r := 1) hk
        rw [L3_m21 hok] at f2 f3
        simp (disch := omega) only [rd_n, ck_n, wr_n, cl_n, st_e, b2_e, bd_e, ltp, lep, eqp, m1p, m1l, m1e, m1a, nI_add, pk_sub, pk_mul, dvp, nzp, up_s, up_x, up_01, if_true, if_false, Nat.not_lt_zero, Nat.zero_add, z_0, z_1, z_2, z_3, z_4, z_5, z_10, z_11, z_15, z_20, z_30, z_63, z_64, z_99, z_100, z_127, z_128, z_200, z_256, z_300, z_400, z_500, z_600, z_601, z_602, z_603, z_604, z_605, z_606, z_862, z_990, z_1000, z_1090, z_1390, z_1393, z_1394, z_1395, z_1396, z_1397, z_1398, z_1399, z_1400, z_1401, z_1402, z_1403, z_1404, z_1405, z_1705, z_1805, z_7220, mk_3, if_neg hl1, e3, if_pos (show lim < uS Z (k :: q) by omega), Nat.reduceAdd, e8, f1, mk_u3, Nat.add_sub_cancel]
        exact ih (p ++ [k]) g1 n f3 f2 (by simp at hn; omega)
theorem pc_settle {Z : Nat → Nat} {C mode W : Nat} {o : Int32} {S : Ob} {c : Nat → Int32} {g : Sg} {w p q : List Nat} (hZ : ∀ k, k < 100 → 1 ≤ Z k ∧ Z k ≤ 20) (hC : C ≤ 200) (hW : W ≤ C) (hc : RC C mode W o c) (hok : okL 3 (L3 w p q)) (hR : RW 3 (L3 w p q) Z g) : ∃ g2, f0_settle (mkS S c g) = some (mkS S c g2) ∧ RW 3 (L3 w (setl Z ((C - W) * 4 / 5) p q).1 (setl Z ((C - W) * 4 / 5) p q).2) Z g2 ∧ okL 3 (L3 w (setl Z ((C - W) * 4 / 5) p q).1 (setl Z ((C - W) * 4 / 5) p q).2) := by
  have hlen := hok.len (r := 2) (by decide)
  have hlen : q.length ≤ 100 := hlen
  obtain ⟨g2, e1, e2⟩ := pc_settleL (S := S) (c := c) (lim := (C - W) * 4 / 5) hZ (by omega) q p g NF hok hR (by show _ < 8000; omega)
  refine ⟨g2, ?_, e2⟩
  have e3 : g 2 2 = nI q.length := hR.1 2 (by decide)
  unfold f0_settle f0_protectedLimit
  simp (disch := omega) only [rd_n, ck_n, wr_n, cl_n, st_e, b2_e, bd_e, ltp, lep, eqp, m1p, m1l, m1e, m1a, nI_add, pk_sub, pk_mul, dvp, nzp, up_s, up_x, up_01, if_true, if_false, Nat.not_lt_zero, Nat.zero_add, z_0, z_1, z_2, z_3, z_4, z_5, z_10, z_11, z_15, z_20, z_30, z_63, z_64, z_99, z_100, z_127, z_128, z_200, z_256, z_300, z_400, z_500, z_600, z_601, z_602, z_603, z_604, z_605, z_606, z_862, z_990, z_1000, z_1090, z_1390, z_1393, z_1394, z_1395, z_1396, z_1397, z_1398, z_1399, z_1400, z_1401, z_1402, z_1403, z_1404, z_1405, z_1705, z_1805, z_7220, mk_1, mk_3, hc.1, hc.2.2.1, e3]
  exact e1
/-! the reference -/
theorem pm_settleL {Z : Nat → Nat} {lim : Nat} {g : Sg} {w : List Nat} (hZ : ∀ k, k < 100 → 1 ≤ Z k ∧ Z k ≤ 20) (hl : lim < 1000) : ∀ (q p : List Nat) (x : Nat → Int32) (n : Nat), okL 3 (L3 w p q) → RQ (L3 w p q) Z x → x 1394 = nI lim → q.length < n → ∃ y, f11_settle_l0 n (va_up g 1 x) = some (va_up g 1 y) ∧ RQ (L3 w (setl Z lim p q).1 (setl Z lim p q).2) Z y ∧ QF x y := by
  intro q
  induction q with
  | nil =>
    intro p x n hok hR hx hn
    match n, hn with
    | n + 1, _ =>
      refine ⟨x, ?_, hR, fun _ _ => rfl⟩
      show f11_settle_b0 (f11_settle_l0 n) (va_up g 1 x) = _
      unfold f11_settle_b0
      have eu := pm_units (g := va_up g 1 x) (r := 2) (by decide) hok hR
      have eu : f11_units (va_up g 1 x) (nI 2) = some (nI 0) := eu
      simp (disch := omega) only [rd_n, ck_n, wr_n, cl_n, st_e, b2_e, bd_e, ltp, lep, eqp, m1p, m1l, m1e, m1a, nI_add, pk_sub, pk_mul, dvp, nzp, up_s, up_x, up_01, if_true, if_false, Nat.not_lt_zero, Nat.zero_add, z_0, z_1, z_2, z_3, z_4, z_5, z_10, z_11, z_15, z_20, z_30, z_63, z_64, z_99, z_100, z_127, z_128, z_200, z_256, z_300, z_400, z_500, z_600, z_601, z_602, z_603, z_604, z_605, z_606, z_862, z_990, z_1000, z_1090, z_1390, z_1393, z_1394, z_1395, z_1396, z_1397, z_1398, z_1399, z_1400, z_1401, z_1402, z_1403, z_1404, z_1405, z_1705, z_1805, z_7220, eu, hx, if_pos (show 0 ≤ lim by omega)]
  | cons k q ih =>
    intro p x n hok hR hx hn
    match n, hn with
    | n + 1, hn =>
      have hus := hok.us hZ (r := 2) (by decide)
      have hus : uS Z (k :: q) ≤ 2000 := hus
      have eu := pm_units (g := va_up g 1 x) (r := 2) (by decide) hok hR
      have eu : f11_units (va_up g 1 x) (nI 2) = some (nI (uS Z (k :: q))) := eu
      have hk := (ok_h2 hok).1
      show ∃ y, f11_settle_b0 (f11_settle_l0 n) (va_up g 1 x) = some (va_up g 1 y) ∧ _
      unfold f11_settle_b0
      by_cases h : uS Z (k :: q) ≤ lim
      · have hs : setl Z lim p (k :: q) = (p, k :: q) := if_pos h
        rw [hs]
        simp (disch := omega) only [rd_n, ck_n, wr_n, cl_n, st_e, b2_e, bd_e, ltp, lep, eqp, m1p, m1l, m1e, m1a, nI_add, pk_sub, pk_mul, dvp, nzp, up_s, up_x, up_01, if_true, if_false, Nat.not_lt_zero, Nat.zero_add, z_0, z_1, z_2, z_3, z_4, z_5, z_10, z_11, z_15, z_20, z_30, z_63, z_64, z_99, z_100, z_127, z_128, z_200, z_256, z_300, z_400, z_500, z_600, z_601, z_602, z_603, z_604, z_605, z_606, z_862, z_990, z_1000, z_1090, z_1390, z_1393, z_1394, z_1395, z_1396, z_1397, z_1398, z_1399, z_1400, z_1401, z_1402, z_1403, z_1404, z_1405, z_1705, z_1805, z_7220, eu, hx, if_pos h]
        exact ⟨x, rfl, hR, fun _ _ => rfl⟩
      · have hs : setl Z lim p (k :: q) = setl Z lim (p ++ [k]) q := if_neg h
        rw [hs]
        obtain ⟨y1, a1, a2, a3⟩ := pm_take (g := g) (r := 2) (i := 0) (by decide) hok hR (by simp [L3])
        have a1 : f11_take (nI 2) (nI 0) (va_up g 1 x) = some (nI k, va_up g 1 y1) := a1
        rw [L3_e2] at a2
        have a2 : RQ (L3 w p q) Z y1 := a2
        have ok1 : okL 3 (L3 w p q) := by rw [← L3_d2 hok]; exact ok_out hok k
        have hl1 : p.length < 100 := ok1.lt (r := 1) (by decide) hk (fun e => absurd (hok.2 1 2 k (by decide) (by decide) e (by simp [L3])) (by decide))
        obtain ⟨y2, b1, b2, b3⟩ := pm_app (g := g) (r := 1) (k := k) (by decide) ok1 a2 hl1
        rw [L3_a1] at b2
        have ok2 := ok_mov hok (r := 1) hk
        rw [L3_m21 hok] at ok2
        obtain ⟨y3, d1, d2, d3⟩ := ih (p ++ [k]) y2 n ok2 b2 (by rw [b3 _ (by omega), a3 _ (by omega)]; exact hx) (by simp at hn; omega)
        simp (disch := omega) only [rd_n, ck_n, wr_n, cl_n, st_e, b2_e, bd_e, ltp, lep, eqp, m1p, m1l, m1e, m1a, nI_add, pk_sub, pk_mul, dvp, nzp, up_s, up_x, up_01, if_true, if_false, Nat.not_lt_zero, Nat.zero_add, z_0, z_1, z_2, z_3, z_4, z_5, z_10, z_11, z_15, z_20, z_30, z_63, z_64, z_99, z_100, z_127, z_128, z_200, z_256, z_300, z_400, z_500, z_600, z_601, z_602, z_603, z_604, z_605, z_606, z_862, z_990, z_1000, z_1090, z_1390, z_1393, z_1394, z_1395, z_1396, z_1397, z_1398, z_1399, z_1400, z_1401, z_1402, z_1403, z_1404, z_1405, z_1705, z_1805, z_7220, eu, hx, if_neg h, a1, b1]
        exact ⟨y3, d1, d2, (a3.t b3).t d3⟩
