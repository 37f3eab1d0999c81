theorem RC.o {C mode W : Nat} {o : Int32} {c : Nat → Int32} {m : Nat} (h : RC C mode W o c) : RC C mode W (o + nI m) (upd c 5 (c 5 + nI m)) :=
  ⟨by rw [ud_n (by decide)]; exact h.1, by rw [ud_n (by decide)]; exact h.2.1, by rw [ud_n (by decide)]; exact h.2.2.1, by rw [ud_s, h.2.2.2]⟩
theorem ud_5 {c : Nat → Int32} {a b : Nat} : upd (upd c 5 (c 5 + nI a)) 5 (upd c 5 (c 5 + nI a) 5 + nI b) = upd c 5 (c 5 + nI (a + b)) := by
  funext j
  by_cases hj : j = 5
  · subst hj
    rw [ud_s, ud_s, ud_s, oad]
  · rw [ud_n hj, ud_n hj, ud_n hj]
theorem jn0_le {Z : Nat → Nat} {most c : Nat} {v : List Nat} : jn0 Z most c v ≤ v.length := need_le v _
theorem pc_judge {D : Nat} {A : AK} {Z : Nat → Nat} {S : Ob} {c : Nat → Int32} {g : Sg} {w p q : List Nat} {C mode W k : Nat} {o : Int32} (hA : okK D A) (hK : RK D A (S 2)) (hZ : ∀ k, k < 100 → 1 ≤ Z k ∧ Z k ≤ 20) (hC : C ≤ 200) (hW : W ≤ C) (hmo : mode ≤ 2) (hc : RC C mode W o c) (hok : okL 3 (L3 w p q)) (hR : RW 3 (L3 w p q) Z g) (hk : k < 100) (hkn : ∀ r, r < 3 → k ∉ L3 w p q r) : ∃ g2, f0_judge (nI k) (mkS S c g) = some (mkS S (upd c 5 (c 5 + nI (jd Z (est D A) mode (C - W) k p q).2.2)) g2) ∧ RW 3 (L3 w (jd Z (est D A) mode (C - W) k p q).1 (jd Z (est D A) mode (C - W) k p q).2.1) Z g2 ∧ okL 3 (L3 w (jd Z (est D A) mode (C - W) k p q).1 (jd Z (est D A) mode (C - W) k p q).2.1) := by
  have hlen := v_len hok
  have hzk := hZ k hk
  have e5 := hR.2.2.2.2 k hk
  have hw1 : k ∉ w := hkn 0 (by decide)
  have hp1 : k ∉ p := hkn 1 (by decide)
  have hq1 : k ∉ q := hkn 2 (by decide)
  unfold f0_judge
  by_cases hsz : C - W < Z k
  · have hj : jd Z (est D A) mode (C - W) k p q = (p, q, 1) := if_pos hsz
    rw [hj]
    simp (disch := omega) only [rd_n, ck_n, wr_n, cl_n, st_e, b2_e, bd_e, ltp, lep, eqp, m1p, m1l, m1e, m1a, nI_add, pk_sub, pk_mul, dvp, nzp, up_s, up_x, up_01, if_true, if_false, Nat.not_lt_zero, Nat.zero_add, z_0, z_1, z_2, z_3, z_4, z_5, z_10, z_11, z_15, z_20, z_30, z_63, z_64, z_99, z_100, z_127, z_128, z_200, z_256, z_300, z_400, z_500, z_600, z_601, z_602, z_603, z_604, z_605, z_606, z_862, z_990, z_1000, z_1090, z_1390, z_1393, z_1394, z_1395, z_1396, z_1397, z_1398, z_1399, z_1400, z_1401, z_1402, z_1403, z_1404, z_1405, z_1705, z_1805, z_7220, mk_3, mk_1, e5, hc.1, hc.2.2.1, if_neg (show ¬ Z k ≤ C - W by omega), mk_u1]
    exact ⟨g, rfl, hR, hok⟩
  · have en := pc_need (S := S) hZ hC hW hc hok hR hk
    have eb := pc_beat (S := S) hA hK hmo hc hok hR hk (C - W)
    have h01 := jn1_le (Z := Z) (e := est D A) (mode := mode) (most := C - W) (c := k) (v := p ++ q)
    have h0l := jn0_le (Z := Z) (most := C - W) (c := k) (v := p ++ q)
    have h0l2 := h0l
    rw [List.length_append] at h0l2
    obtain ⟨g1, d1, d2, d3⟩ := pc_judL (S := S) (k := k) (n0 := jn0 Z (C - W) k (p ++ q)) (n1 := jn1 Z (est D A) mode (C - W) k (p ++ q)) hZ (by omega) (jn1 Z (est D A) mode (C - W) k (p ++ q)) NF 0 p q c g (by omega) (by show _ < 8000; omega) (by omega) hok hR
    have hj : jd Z (est D A) mode (C - W) k p q = if jn1 Z (est D A) mode (C - W) k (p ++ q) = jn0 Z (C - W) k (p ++ q) then (p.drop (jn0 Z (C - W) k (p ++ q)) ++ [k], q.drop (jn0 Z (C - W) k (p ++ q) - p.length), jn0 Z (C - W) k (p ++ q)) else if mode = 1 then (rotN (min (jn0 Z (C - W) k (p ++ q)) p.length) p, rotN (jn0 Z (C - W) k (p ++ q) - p.length) q, 1) else (p.drop (jn1 Z (est D A) mode (C - W) k (p ++ q)), q.drop (jn1 Z (est D A) mode (C - W) k (p ++ q) - p.length), jn1 Z (est D A) mode (C - W) k (p ++ q) + 1) := if_neg hsz
    simp (disch := omega) only [rd_n, ck_n, wr_n, cl_n, st_e, b2_e, bd_e, ltp, lep, eqp, m1p, m1l, m1e, m1a, nI_add, pk_sub, pk_mul, dvp, nzp, up_s, up_x, up_01, if_true, if_false, Nat.not_lt_zero, Nat.zero_add, z_0, z_1, z_2, z_3, z_4, z_5, z_10, z_11, z_15, z_20, z_30, z_63, z_64, z_99, z_100, z_127, z_128, z_200, z_256, z_300, z_400, z_500, z_600, z_601, z_602, z_603, z_604, z_605, z_606, z_862, z_990, z_1000, z_1090, z_1390, z_1393, z_1394, z_1395, z_1396, z_1397, z_1398, z_1399, z_1400, z_1401, z_1402, z_1403, z_1404, z_1405, z_1705, z_1805, z_7220, mk_3, mk_1, e5, hc.1, hc.2.2.1, if_pos (show Z k ≤ C - W by omega), en, eb, d1]
    unfold f0_judge_j82
    have cm : ∀ v : Int32, (upd c 5 v) 3 = nI mode := fun v => by rw [ud_n (by decide)]; exact hc.2.1
    by_cases he : jn1 Z (est D A) mode (C - W) k (p ++ q) = jn0 Z (C - W) k (p ++ q)
    · rw [hj, if_pos he]
      rw [he] at d2 d3 ⊢
      obtain ⟨g2, f1, f2⟩ := pr_app (r := 1) (by decide) (by decide) d3 hZ d2 hk (lt3 hw1 (fun h => hp1 (List.mem_of_mem_drop h)) (fun h => hq1 (List.mem_of_mem_drop h)))
      have f3 := ok_app (r := 1) d3 hk (lt3 hw1 (fun h => hp1 (List.mem_of_mem_drop h)) (fun h => hq1 (List.mem_of_mem_drop h)))
      rw [L3_a1] at f2 f3
      simp (disch := omega) only [rd_n, ck_n, wr_n, cl_n, st_e, b2_e, bd_e, ltp, lep, eqp, m1p, m1l, m1e, m1a, nI_add, pk_sub, pk_mul, dvp, nzp, up_s, up_x, up_01, if_true, if_false, Nat.not_lt_zero, Nat.zero_add, z_0, z_1, z_2, z_3, z_4, z_5, z_10, z_11, z_15, z_20, z_30, z_63, z_64, z_99, z_100, z_127, z_128, z_200, z_256, z_300, z_400, z_500, z_600, z_601, z_602, z_603, z_604, z_605, z_606, z_862, z_990, z_1000, z_1090, z_1390, z_1393, z_1394, z_1395, z_1396, z_1397, z_1398, z_1399, z_1400, z_1401, z_1402, z_1403, z_1404, z_1405, z_1705, z_1805, z_7220, mk_3, f1, mk_u3]
      exact ⟨g2, rfl, f2, f3⟩
    · rw [hj, if_neg he]
      by_cases h1 : mode = 1
      · rw [if_pos h1]
        have hz : jn1 Z (est D A) mode (C - W) k (p ++ q) = 0 := by
          unfold jn1 at he ⊢
          subst h1
          rw [if_neg (by decide), if_neg (by decide)] at he ⊢
          split at he
          · exact absurd rfl he
          · rename_i h
            rw [if_neg h]
        rw [hz] at d2 d3 he ⊢
        rw [List.drop_zero, Nat.zero_sub, List.drop_zero] at d2 d3
        obtain ⟨g2, s1, s2, s3⟩ := pc_spare (S := S) (c := upd c 5 (c 5 + nI (0 + 1))) (n0 := jn0 Z (C - W) k (p ++ q)) (a := min (jn0 Z (C - W) k (p ++ q)) p.length) hZ (by omega) (by omega) NF 0 p q g1 (by omega) (by show _ < 8000; omega) (by omega) (by omega) d3 d2
        rw [Nat.sub_zero, Nat.zero_sub, Nat.sub_zero, show jn0 Z (C - W) k (p ++ q) - min (jn0 Z (C - W) k (p ++ q)) p.length = jn0 Z (C - W) k (p ++ q) - p.length by omega] at s2 s3
        have e21 : g1 2 1 = nI p.length := d2.1 1 (by decide)
        have hpl : p.length ≤ 100 := hok.len (r := 1) (by decide)
        have emin : ∀ {d : Decidable (p.length < jn0 Z (C - W) k (p ++ q))}, @ite _ (p.length < jn0 Z (C - W) k (p ++ q)) d (nI p.length) (nI (jn0 Z (C - W) k (p ++ q))) = nI (min (jn0 Z (C - W) k (p ++ q)) p.length) := by
          intro d
          split
          · rw [Nat.min_eq_right (by omega)]
          · rw [Nat.min_eq_left (by omega)]
        unfold f0_spare
        simp (disch := omega) only [rd_n, ck_n, wr_n, cl_n, st_e, b2_e, bd_e, ltp, lep, eqp, m1p, m1l, m1e, m1a, nI_add, pk_sub, pk_mul, dvp, nzp, up_s, up_x, up_01, if_true, if_false, Nat.not_lt_zero, Nat.zero_add, z_0, z_1, z_2, z_3, z_4, z_5, z_10, z_11, z_15, z_20, z_30, z_63, z_64, z_99, z_100, z_127, z_128, z_200, z_256, z_300, z_400, z_500, z_600, z_601, z_602, z_603, z_604, z_605, z_606, z_862, z_990, z_1000, z_1090, z_1390, z_1393, z_1394, z_1395, z_1396, z_1397, z_1398, z_1399, z_1400, z_1401, z_1402, z_1403, z_1404, z_1405, z_1705, z_1805, z_7220, mk_3, mk_1, if_neg he, mk_u1, ud_5, cm, if_pos h1, e21, emin]
        rw [Nat.zero_add] at s1
        rw [s1]
        exact ⟨g2, rfl, s2, s3⟩
      · rw [if_neg h1]
        simp (disch := omega) only [rd_n, ck_n, wr_n, cl_n, st_e, b2_e, bd_e, ltp, lep, eqp, m1p, m1l, m1e, m1a, nI_add, pk_sub, pk_mul, dvp, nzp, up_s, up_x, up_01, if_true, if_false, Nat.not_lt_zero, Nat.zero_add, z_0, z_1, z_2, z_3, z_4, z_5, z_10, z_11, z_15, z_20, z_30, z_63, z_64, z_99, z_100, z_127, z_128, z_200, z_256, z_300, z_400, z_500, z_600, z_601, z_602, z_603, z_604, z_605, z_606, z_862, z_990, z_1000, z_1090, z_1390, z_1393, z_1394, z_1395, z_1396, z_1397, z_1398, z_1399, z_1400, z_1401, z_1402, z_1403, z_1404, z_1405, z_1705, z_1805, z_7220, mk_3, mk_1, if_neg he, mk_u1, ud_5, cm, if_neg h1]
        exact ⟨g1, rfl, d2, d3⟩
/-- the window gives up its first keys while it is too large -/
def ovf (Z e : Nat → Nat) (mode C W : Nat) : List Nat → List Nat → List Nat → List Nat × List Nat × List Nat × Nat
  | [], p, q => ([], p, q, 0)
  | k :: w, p, q => if uS Z (k :: w) ≤ W then (k :: w, p, q, 0) else ((ovf Z e mode C W w (jd Z e mode (C - W) k p q).1 (jd Z e mode (C - W) k p q).2.1).1, (ovf Z e mode C W w (jd Z e mode (C - W) k p q).1 (jd Z e mode (C - W) k p q).2.1).2.1, (ovf Z e mode C W w (jd Z e mode (C - W) k p q).1 (jd Z e mode (C - W) k p q).2.1).2.2.1, (jd Z e mode (C - W) k p q).2.2 + (ovf Z e mode C W w (jd Z e mode (C - W) k p q).1 (jd Z e mode (C - W) k p q).2.1).2.2.2)
theorem ud_50 {c : Nat → Int32} : upd c 5 (c 5 + nI 0) = c := by
  funext j
  by_cases hj : j = 5
  · subst hj
    rw [ud_s, show nI 0 = 0 from rfl, Int32.add_zero]
  · rw [ud_n hj]
theorem pc_ovfL {D : Nat} {A : AK} {Z : Nat → Nat} {S : Ob} {C mode W : Nat} (hA : okK D A) (hK : RK D A (S 2)) (hZ : ∀ k, k < 100 → 1 ≤ Z k ∧ Z k ≤ 20) (hC : C ≤ 200) (hW : W ≤ C) (hmo : mode ≤ 2) : ∀ (w p q : List Nat) (c : Nat → Int32) (o : Int32) (g : Sg) (n : Nat), RC C mode W o c → okL 3 (L3 w p q) → RW 3 (L3 w p q) Z g → w.length < n → ∃ g2, f0_overflow_l10 n (nI w.length) (mkS S c g) = some (mkS S (upd c 5 (c 5 + nI (ovf Z (est D A) mode C W w p q).2.2.2)) g2) ∧ RW 3 (L3 (ovf Z (est D A) mode C W w p q).1 (ovf Z (est D A) mode C W w p q).2.1 (ovf Z (est D A) mode C W w p q).2.2.1) Z g2 ∧ okL 3 (L3 (ovf Z (est D A) mode C W w p q).1 (ovf Z (est D A) mode C W w p q).2.1 (ovf Z (est D A) mode C W w p q).2.2.1) := by
  intro w
  induction w with
  | nil =>
    intro p q c o g n hc hok hR hn
    match n, hn with
    | n + 1, _ =>
      refine ⟨g, ?_, hR, hok⟩
      show f0_overflow_b10 (f0_overflow_l10 n) (nI 0) (mkS S c g) = some (mkS S (upd c 5 (c 5 + nI 0)) g)
      rw [ud_50]
      unfold f0_overflow_b10
      simp (disch := omega) only [rd_n, ck_n, wr_n, cl_n, st_e, b2_e, bd_e, ltp, lep, eqp, m1p, m1l, m1e, m1a, nI_add, pk_sub, pk_mul, dvp, nzp, up_s, up_x, up_01, if_true, if_false, Nat.not_lt_zero, Nat.zero_add, z_0, z_1, z_2, z_3, z_4, z_5, z_10, z_11, z_15, z_20, z_30, z_63, z_64, z_99, z_100, z_127, z_128, z_200, z_256, z_300, z_400, z_500, z_600, z_601, z_602, z_603, z_604, z_605, z_606, z_862, z_990, z_1000, z_1090, z_1390, z_1393, z_1394, z_1395, z_1396, z_1397, z_1398, z_1399, z_1400, z_1401, z_1402, z_1403, z_1404, z_1405, z_1705, z_1805, z_7220, Nat.le_refl]
  | cons k w ih =>
    intro p q c o g n hc hok hR hn
    match n, hn with
    | n + 1, hn =>
      have hlen := hok.len (r := 0) (by decide)
      have hus := hok.us hZ (r := 0) (by decide)
      have hlen : w.length + 1 ≤ 100 := hlen
      have hus : uS Z (k :: w) ≤ 2000 := hus
      have e3 : g 3 0 = nI (uS Z (k :: w)) := hR.2.1 0 (by decide)
      have e8 : g 6 0 = nI k := hR.2.2.1 0 0 (by decide) (by simp [L3])
      have hk := (ok_h0 hok).1
      show ∃ g2, f0_overflow_b10 (f0_overflow_l10 n) (nI (w.length + 1)) _ = some (mkS S _ g2) ∧ _
      unfold f0_overflow_b10
      have hl1 : ¬ w.length + 1 ≤ 0 := by omega
      by_cases h : uS Z (k :: w) ≤ W
      · have hs : ovf Z (est D A) mode C W (k :: w) p q = (k :: w, p, q, 0) := if_pos h
        rw [hs]
        simp (disch := omega) only [rd_n, ck_n, wr_n, cl_n, st_e, b2_e, bd_e, ltp, lep, eqp, m1p, m1l, m1e, m1a, nI_add, pk_sub, pk_mul, dvp, nzp, up_s, up_x, up_01, if_true, if_false, Nat.not_lt_zero, Nat.zero_add, z_0, z_1, z_2, z_3, z_4, z_5, z_10, z_11, z_15, z_20, z_30, z_63, z_64, z_99, z_100, z_127, z_128, z_200, z_256, z_300, z_400, z_500, z_600, z_601, z_602, z_603, z_604, z_605, z_606, z_862, z_990, z_1000, z_1090, z_1390, z_1393, z_1394, z_1395, z_1396, z_1397, z_1398, z_1399, z_1400, z_1401, z_1402, z_1403, z_1404, z_1405, z_1705, z_1805, z_7220, mk_3, mk_1, if_neg hl1, e3, hc.2.2.1, if_neg (show ¬ W < uS Z (k :: w) by omega)]
        refine ⟨g, ?_, hR, hok⟩
        show some (mkS S c g) = some (mkS S (upd c 5 (c 5 + nI 0)) g)
        rw [ud_50]
      · have hs : ovf Z (est D A) mode C W (k :: w) p q = ((ovf Z (est D A) mode C W w (jd Z (est D A) mode (C - W) k p q).1 (jd Z (est D A) mode (C - W) k p q).2.1).1, (ovf Z (est D A) mode C W w (jd Z (est D A) mode (C - W) k p q).1 (jd Z (est D A) mode (C - W) k p q).2.1).2.1, (ovf Z (est D A) mode C W w (jd Z (est D A) mode (C - W) k p q).1 (jd Z (est D A) mode (C - W) k p q).2.1).2.2.1, (jd Z (est D A) mode (C - W) k p q).2.2 + (ovf Z (est D A) mode C W w (jd Z (est D A) mode (C - W) k p q).1 (jd Z (est D A) mode (C - W) k p q).2.1).2.2.2) := if_neg h
        rw [hs]
        obtain ⟨g1, f1, f2⟩ := pr_take (by decide) hok hZ hR hk
        have f3 := ok_out hok k
        have hnm : ∀ r, r < 3 → k ∉ outL (L3 (k :: w) p q) k r := fun r hr => out_nm hok hr
        rw [L3_d0 hok] at f2 f3 hnm
        obtain ⟨g2, j1, j2, j3⟩ := pc_judge (S := S) hA hK hZ hC hW hmo hc f3 f2 hk hnm
        obtain ⟨g3, i1, i2, i3⟩ := ih _ _ _ _ g2 n hc.o j3 j2 (by simp at hn; omega)
        rw [ud_5] at i1
        simp (disch := omega) only [rd_n, ck_n, wr_n, cl_n, st_e, b2_e, bd_e, ltp, lep, eqp, m1p, m1l, m1e, m1a, nI_add, pk_sub, pk_mul, dvp, nzp, up_s, up_x, up_01, if_true, if_false, Nat.not_lt_zero, Nat.zero_add, z_0, z_1, z_2, z_3, z_4, z_5, z_10, z_11, z_15, z_20, z_30, z_63, z_64, z_99, z_100, z_127, z_128, z_200, z_256, z_300, z_400, z_500, z_600, z_601, z_602, z_603, z_604, z_605, z_606, z_862, z_990, z_1000, z_1090, z_1390, z_1393, z_1394, z_1395, z_1396, z_1397, z_1398, z_1399, z_1400, z_1401, z_1402, z_1403, z_1404, z_1405, z_1705, z_1805, z_7220, mk_3, mk_1, if_neg hl1, e3, hc.2.2.1, if_pos (show W < uS Z (k :: w) by omega), Nat.reduceAdd, e8, f1, mk_u3, j1, Nat.add_sub_cancel]
        exact ⟨g3, i1, i2, i3⟩
theorem pc_ovf {D : Nat} {A : AK} {Z : Nat → Nat} {S : Ob} {C mode W : Nat} {w p q : List Nat} {c : Nat → Int32} {o : Int32} {g : Sg} (hA : okK D A) (hK : RK D A (S 2)) (hZ : ∀ k, k < 100 → 1 ≤ Z k ∧ Z k ≤ 20) (hC : C ≤ 200) (hW : W ≤ C) (hmo : mode ≤ 2) (hc : RC C mode W o c) (hok : okL 3 (L3 w p q)) (hR : RW 3 (L3 w p q) Z g) : ∃ g2, f0_overflow (mkS S c g) = some (mkS S (upd c 5 (c 5 + nI (ovf Z (est D A) mode C W w p q).2.2.2)) g2) ∧ RW 3 (L3 (ovf Z (est D A) mode C W w p q).1 (ovf Z (est D A) mode C W w p q).2.1 (ovf Z (est D A) mode C W w p q).2.2.1) Z g2 ∧ okL 3 (L3 (ovf Z (est D A) mode C W w p q).1 (ovf Z (est D A) mode C W w p q).2.1 (ovf Z (est D A) mode C W w p q).2.2.1) := by
  have hlen : w.length ≤ 100 := hok.len (r := 0) (by decide)
  obtain ⟨g2, e1, e2, e3⟩ := pc_ovfL (S := S) hA hK hZ hC hW hmo w p q c o g NF hc hok hR (by show _ < 8000; omega)
  refine ⟨g2, ?_, e2, e3⟩
  have e0 : g 2 0 = nI w.length := hR.1 0 (by decide)
  unfold f0_overflow
  simp (disch := omega) only [rd_n, ck_n, wr_n, cl_n, st_e, b2_e, bd_e, ltp, lep, eqp, m1p, m1l, m1e, m1a, nI_add, pk_sub, pk_mul, dvp, nzp, up_s, up_x, up_01, if_true, if_false, Nat.not_lt_zero, Nat.zero_add, z_0, z_1, z_2, z_3, z_4, z_5, z_10, z_11, z_15, z_20, z_30, z_63, z_64, z_99, z_100, z_127, z_128, z_200, z_256, z_300, z_400, z_500, z_600, z_601, z_602, z_603, z_604, z_605, z_606, z_862, z_990, z_1000, z_1090, z_1390, z_1393, z_1394, z_1395, z_1396, z_1397, z_1398, z_1399, z_1400, z_1401, z_1402, z_1403, z_1404, z_1405, z_1705, z_1805, z_7220, mk_3, e0]
  exact e1
