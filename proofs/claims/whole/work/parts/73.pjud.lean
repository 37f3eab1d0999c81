/-! who comes into the main parts, and who goes for it -/
def need (Z : Nat → Nat) : Nat → List Nat → Nat
  | _, [] => 0
  | a, k :: v => if a = 0 then 0 else need Z (a - Z k) v + 1
def beat (e : Nat → Nat) (b : Nat) : Nat → List Nat → Nat
  | 0, _ => 0
  | _ + 1, [] => 0
  | n + 1, k :: v => if b ≤ e k then 0 else beat e b n v + 1
def rotN : Nat → List Nat → List Nat
  | 0, l => l
  | _ + 1, [] => []
  | n + 1, k :: l => rotN n (l ++ [k])
def jn0 (Z : Nat → Nat) (most c : Nat) (v : List Nat) : Nat := need Z (uS Z v + Z c - most) v
def jn1 (Z e : Nat → Nat) (mode most c : Nat) (v : List Nat) : Nat := if mode = 2 then jn0 Z most c v else if mode = 0 then beat e (e c) (jn0 Z most c v) v else if uS e (v.take (jn0 Z most c v)) < e c then jn0 Z most c v else 0
def jd (Z e : Nat → Nat) (mode most c : Nat) (p q : List Nat) : List Nat × List Nat × Nat :=
  if most < Z c then (p, q, 1)
  else if jn1 Z e mode most c (p ++ q) = jn0 Z most c (p ++ q) then (p.drop (jn0 Z most c (p ++ q)) ++ [c], q.drop (jn0 Z most c (p ++ q) - p.length), jn0 Z most c (p ++ q))
  else if mode = 1 then (rotN (min (jn0 Z most c (p ++ q)) p.length) p, rotN (jn0 Z most c (p ++ q) - p.length) q, 1)
  else (p.drop (jn1 Z e mode most c (p ++ q)), q.drop (jn1 Z e mode most c (p ++ q) - p.length), jn1 Z e mode most c (p ++ q) + 1)
theorem need_le {Z : Nat → Nat} : ∀ (v : List Nat) (a : Nat), need Z a v ≤ v.length
  | [], a => Nat.le_refl 0
  | k :: v, a => by
    show (if a = 0 then 0 else need Z (a - Z k) v + 1) ≤ v.length + 1
    have := need_le v (a - Z k) (Z := Z)
    split <;> omega
theorem beat_le {e : Nat → Nat} {b : Nat} : ∀ (v : List Nat) (n : Nat), beat e b n v ≤ n
  | v, 0 => by simp [beat]
  | [], n + 1 => by simp [beat]
  | k :: v, n + 1 => by
    show (if b ≤ e k then 0 else beat e b n v + 1) ≤ n + 1
    have := beat_le v n (e := e) (b := b)
    split <;> omega
theorem jn1_le {Z e : Nat → Nat} {mode most c : Nat} {v : List Nat} : jn1 Z e mode most c v ≤ jn0 Z most c v := by
  unfold jn1
  have := beat_le (e := e) (b := e c) v (jn0 Z most c v)
  split
  · omega
  · split
    · omega
    · split <;> omega
theorem est_le {D : Nat} {A : AK} {k : Nat} : est D A k ≤ 16 := by
  unfold est
  have := mnr_le A k D
  split <;> omega
theorem gt_app {l m : List Nat} {j : Nat} : gt (l ++ m) j = if j < l.length then gt l j else gt m (j - l.length) := by
  unfold gt
  rw [List.getElem?_append]
  split <;> rfl
theorem sle0 {a b : Nat} (ha : a < 1000000) (hb : b < 1000000) : (nI a - nI b ≤ nI 0) = (a ≤ b) := by
  apply propext
  rw [Int32.le_iff_toInt_le, pk_sub_toInt (by omega) (by omega), show (nI 0).toInt = 0 from rfl]
  omega
theorem oad {o : Int32} {a b : Nat} : o + nI a + nI b = o + nI (a + b) := by rw [Int32.add_assoc, nI_add]
/-! the class -/
theorem pc_vict {Z : Nat → Nat} {S : Ob} {c : Nat → Int32} {g : Sg} {w p q : List Nat} {i : Nat} (hok : okL 3 (L3 w p q)) (hR : RW 3 (L3 w p q) Z g) (hi : i < (p ++ q).length) : f0_victimAt (mkS S c g) (nI i) = some (nI (gt (p ++ q) i)) := by
  have h1 : p.length ≤ 100 := hok.len (r := 1) (by decide)
  have h2 : q.length ≤ 100 := hok.len (r := 2) (by decide)
  have e1 : g 2 1 = nI p.length := hR.1 1 (by decide)
  rw [List.length_append] at hi
  unfold f0_victimAt
  rw [gt_app]
  by_cases h : i < p.length
  · have ek := pr_key (r := 1) (i := i) (by decide) (by decide) hok hR (by omega)
    have ek : f5_keyAt 3 g (nI 1) (nI i) = some (if i < p.length then nI (gt p i) else -1) := ek
    rw [if_pos h] at ek
    simp (disch := omega) only [rd_n, ck_n, wr_n, cl_n, st_e, b2_e, bd_e, ltp, lep, eqp, m1p, m1l, m1e, m1a, nI_add, pk_sub, pk_mul, dvp, nzp, up_s, up_x, up_01, if_true, if_false, Nat.not_lt_zero, Nat.zero_add, z_0, z_1, z_2, z_3, z_4, z_5, z_10, z_11, z_15, z_20, z_30, z_63, z_64, z_99, z_100, z_127, z_128, z_200, z_256, z_300, z_400, z_500, z_600, z_601, z_602, z_603, z_604, z_605, z_606, z_862, z_990, z_1000, z_1090, z_1390, z_1393, z_1394, z_1395, z_1396, z_1397, z_1398, z_1399, z_1400, z_1401, z_1402, z_1403, z_1404, z_1405, z_1705, z_1805, z_7220, mk_3, e1, if_neg (show ¬ p.length ≤ i by omega), ek, if_pos h]
  · have ek := pr_key (r := 2) (i := i - p.length) (by decide) (by decide) hok hR (by omega)
    have ek : f5_keyAt 3 g (nI 2) (nI (i - p.length)) = some (if i - p.length < q.length then nI (gt q (i - p.length)) else -1) := ek
    rw [if_pos (by omega)] at ek
    simp (disch := omega) only [rd_n, ck_n, wr_n, cl_n, st_e, b2_e, bd_e, ltp, lep, eqp, m1p, m1l, m1e, m1a, nI_add, pk_sub, pk_mul, dvp, nzp, up_s, up_x, up_01, if_true, if_false, Nat.not_lt_zero, Nat.zero_add, z_0, z_1, z_2, z_3, z_4, z_5, z_10, z_11, z_15, z_20, z_30, z_63, z_64, z_99, z_100, z_127, z_128, z_200, z_256, z_300, z_400, z_500, z_600, z_601, z_602, z_603, z_604, z_605, z_606, z_862, z_990, z_1000, z_1090, z_1390, z_1393, z_1394, z_1395, z_1396, z_1397, z_1398, z_1399, z_1400, z_1401, z_1402, z_1403, z_1404, z_1405, z_1705, z_1805, z_7220, mk_3, e1, if_pos (show p.length ≤ i by omega), ek, if_neg h]
theorem v_lt {w p q : List Nat} {i : Nat} (hok : okL 3 (L3 w p q)) (hi : i < (p ++ q).length) : gt (p ++ q) i < 100 := by
  rcases List.mem_append.mp (gt_mem hi) with h | h
  · exact (hok.1 1 (by decide)).2 _ h
  · exact (hok.1 2 (by decide)).2 _ h
theorem v_len {w p q : List Nat} (hok : okL 3 (L3 w p q)) : (p ++ q).length ≤ 200 := by
  have h1 : p.length ≤ 100 := hok.len (r := 1) (by decide)
  have h2 : q.length ≤ 100 := hok.len (r := 2) (by decide)
  rw [List.length_append]
  omega
theorem v_us {w p q : List Nat} {Z : Nat → Nat} (hok : okL 3 (L3 w p q)) (hZ : ∀ k, k < 100 → 1 ≤ Z k ∧ Z k ≤ 20) : uS Z (p ++ q) ≤ 4000 := by
  have h1 : uS Z p ≤ 2000 := hok.us hZ (r := 1) (by decide)
  have h2 : uS Z q ≤ 2000 := hok.us hZ (r := 2) (by decide)
  rw [uS_app]
  omega
theorem pc_needL {Z : Nat → Nat} {S : Ob} {c : Nat → Int32} {g : Sg} {w p q : List Nat} {most : Nat} (hZ : ∀ k, k < 100 → 1 ≤ Z k ∧ Z k ≤ 20) (hok : okL 3 (L3 w p q)) (hR : RW 3 (L3 w p q) Z g) (hm : most < 1000) : ∀ (n i a : Nat) (t : Int32), i ≤ (p ++ q).length → (p ++ q).length - i < n → uS Z ((p ++ q).drop i) ≤ a → a < 100000 → t = nI a - nI most → f0_victimsNeeded_l33 (mkS S c g) n t (nI (p ++ q).length) (nI i) = some (nI (i + need Z (a - most) ((p ++ q).drop i))) := by
  have hlen := v_len hok
  intro n
  induction n with
  | zero => intro i a t h1 h2; omega
  | succ n ih =>
    intro i a t h1 h2 h3 h4 ht
    show f0_victimsNeeded_b33 (mkS S c g) (f0_victimsNeeded_l33 (mkS S c g) n) t _ (nI i) = _
    unfold f0_victimsNeeded_b33
    by_cases hi : (p ++ q).length ≤ i
    · simp (disch := omega) only [rd_n, ck_n, wr_n, cl_n, st_e, b2_e, bd_e, ltp, lep, eqp, m1p, m1l, m1e, m1a, nI_add, pk_sub, pk_mul, dvp, nzp, up_s, up_x, up_01, if_true, if_false, Nat.not_lt_zero, Nat.zero_add, z_0, z_1, z_2, z_3, z_4, z_5, z_10, z_11, z_15, z_20, z_30, z_63, z_64, z_99, z_100, z_127, z_128, z_200, z_256, z_300, z_400, z_500, z_600, z_601, z_602, z_603, z_604, z_605, z_606, z_862, z_990, z_1000, z_1090, z_1390, z_1393, z_1394, z_1395, z_1396, z_1397, z_1398, z_1399, z_1400, z_1401, z_1402, z_1403, z_1404, z_1405, z_1705, z_1805, z_7220, if_pos hi]
      rw [List.drop_eq_nil_of_le hi]
      rfl
    · have hi : i < (p ++ q).length := by omega
      rw [dr_c hi] at h3 ⊢
      have hle : (t ≤ nI 0) = (a ≤ most) := by rw [ht]; exact sle0 (by omega) (by omega)
      show _ = some (nI (i + if a - most = 0 then 0 else need Z (a - most - Z (gt (p ++ q) i)) ((p ++ q).drop (i + 1)) + 1))
      by_cases ha : a ≤ most
      · simp (disch := omega) only [rd_n, ck_n, wr_n, cl_n, st_e, b2_e, bd_e, ltp, lep, eqp, m1p, m1l, m1e, m1a, nI_add, pk_sub, pk_mul, dvp, nzp, up_s, up_x, up_01, if_true, if_false, Nat.not_lt_zero, Nat.zero_add, z_0, z_1, z_2, z_3, z_4, z_5, z_10, z_11, z_15, z_20, z_30, z_63, z_64, z_99, z_100, z_127, z_128, z_200, z_256, z_300, z_400, z_500, z_600, z_601, z_602, z_603, z_604, z_605, z_606, z_862, z_990, z_1000, z_1090, z_1390, z_1393, z_1394, z_1395, z_1396, z_1397, z_1398, z_1399, z_1400, z_1401, z_1402, z_1403, z_1404, z_1405, z_1705, z_1805, z_7220, if_neg (show ¬ (p ++ q).length ≤ i by omega), hle, if_pos ha, if_pos (show a - most = 0 by omega)]
        rfl
      · have hk := v_lt hok hi
        have ev := pc_vict (S := S) (c := c) hok hR hi
        have e5 := hR.2.2.2.2 _ hk
        have hzk : Z (gt (p ++ q) i) ≤ a := by
          have h3 : Z (gt (p ++ q) i) + uS Z ((p ++ q).drop (i + 1)) ≤ a := h3
          omega
        have hzk2 : uS Z ((p ++ q).drop (i + 1)) ≤ a - Z (gt (p ++ q) i) := by
          have h3 : Z (gt (p ++ q) i) + uS Z ((p ++ q).drop (i + 1)) ≤ a := h3
          omega
        have e := ih (i + 1) (a - Z (gt (p ++ q) i)) (t - nI (Z (gt (p ++ q) i))) (by omega) (by omega) hzk2 (by omega) (by
          rw [ht, ← pk_sub hzk, Int32.sub_eq_add_neg, Int32.sub_eq_add_neg, Int32.sub_eq_add_neg, Int32.sub_eq_add_neg, Int32.add_assoc, Int32.add_comm (-nI most), ← Int32.add_assoc])
        simp (disch := omega) only [rd_n, ck_n, wr_n, cl_n, st_e, b2_e, bd_e, ltp, lep, eqp, m1p, m1l, m1e, m1a, nI_add, pk_sub, pk_mul, dvp, nzp, up_s, up_x, up_01, if_true, if_false, Nat.not_lt_zero, Nat.zero_add, z_0, z_1, z_2, z_3, z_4, z_5, z_10, z_11, z_15, z_20, z_30, z_63, z_64, z_99, z_100, z_127, z_128, z_200, z_256, z_300, z_400, z_500, z_600, z_601, z_602, z_603, z_604, z_605, z_606, z_862, z_990, z_1000, z_1090, z_1390, z_1393, z_1394, z_1395, z_1396, z_1397, z_1398, z_1399, z_1400, z_1401, z_1402, z_1403, z_1404, z_1405, z_1705, z_1805, z_7220, if_neg (show ¬ (p ++ q).length ≤ i by omega), hle, if_neg ha, if_neg (show ¬ a - most = 0 by omega), ev, mk_3, e5]
        rw [e]
        congr 2
        rw [show a - Z (gt (p ++ q) i) - most = a - most - Z (gt (p ++ q) i) by omega]
        omega
theorem pc_need {Z : Nat → Nat} {S : Ob} {c : Nat → Int32} {g : Sg} {w p q : List Nat} {C mode W k : Nat} {o : Int32} (hZ : ∀ k, k < 100 → 1 ≤ Z k ∧ Z k ≤ 20) (hC : C ≤ 200) (hW : W ≤ C) (hc : RC C mode W o c) (hok : okL 3 (L3 w p q)) (hR : RW 3 (L3 w p q) Z g) (hk : k < 100) : f0_victimsNeeded (mkS S c g) (nI k) = some (nI (jn0 Z (C - W) k (p ++ q))) := by
  have hlen := v_len hok
  have hus := v_us hok hZ
  have hzk := hZ k hk
  have e := pc_needL (S := S) (c := c) (most := C - W) hZ hok hR (by omega) NF 0 (uS Z (p ++ q) + Z k) _ (by omega) (by show _ < 8000; omega) (by rw [List.drop_zero]; omega) (by omega) rfl
  rw [Nat.zero_add, List.drop_zero, List.length_append, uS_app] at e
  have e31 : g 3 1 = nI (uS Z p) := hR.2.1 1 (by decide)
  have e32 : g 3 2 = nI (uS Z q) := hR.2.1 2 (by decide)
  have e21 : g 2 1 = nI p.length := hR.1 1 (by decide)
  have e22 : g 2 2 = nI q.length := hR.1 2 (by decide)
  have e5 := hR.2.2.2.2 k hk
  unfold f0_victimsNeeded f0_unitsInMain f0_keysInMain jn0
  rw [uS_app]
  simp (disch := omega) only [rd_n, st_e, bd_e, nI_add, mk_3, mk_1, z_1, z_2, z_0, e31, e32, e21, e22, e5, hc.1, hc.2.2.1, pk_sub hW]
  exact e
