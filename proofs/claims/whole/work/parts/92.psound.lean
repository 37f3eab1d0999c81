/-! sound: both sides say yes -/
def cn (k : Nat) : List Nat → Nat
  | [] => 0
  | a :: l => (if a = k then 1 else 0) + cn k l
theorem cn_nm {k : Nat} : ∀ l : List Nat, k ∉ l → cn k l = 0
  | [], _ => rfl
  | a :: l, h => by
    have h1 : ¬ a = k := fun e => h (e ▸ List.mem_cons_self)
    show (if a = k then 1 else 0) + cn k l = 0
    rw [if_neg h1, cn_nm l (fun hm => h (List.mem_cons_of_mem _ hm))]
theorem cn_le {k : Nat} : ∀ l : List Nat, l.Nodup → cn k l ≤ 1
  | [], _ => Nat.zero_le _
  | a :: l, h => by
    obtain ⟨h1, h2⟩ := List.nodup_cons.mp h
    show (if a = k then 1 else 0) + cn k l ≤ 1
    by_cases e : a = k
    · subst e
      rw [if_pos rfl, cn_nm l h1]
      exact Nat.le_refl _
    · rw [if_neg e, Nat.zero_add]; exact cn_le l h2
theorem cn3 {w p q : List Nat} {k : Nat} (h : okL 3 (L3 w p q)) : cn k w + cn k p + cn k q ≤ 1 := by
  have h0 := cn_le (k := k) w (h.1 0 (by decide)).1
  have h1 := cn_le (k := k) p (h.1 1 (by decide)).1
  have h2 := cn_le (k := k) q (h.1 2 (by decide)).1
  by_cases c0 : k ∈ w
  · rw [cn_nm p (fun hm => absurd (h.2 0 1 k (by decide) (by decide) c0 hm) (by decide)), cn_nm q (fun hm => absurd (h.2 0 2 k (by decide) (by decide) c0 hm) (by decide))]
    exact h0
  · rw [cn_nm w c0]
    by_cases c1 : k ∈ p
    · rw [cn_nm q (fun hm => absurd (h.2 1 2 k (by decide) (by decide) c1 hm) (by decide))]
      omega
    · rw [cn_nm p c1]
      omega
theorem est_16 {D : Nat} {A : AK} {k : Nat} : est D A k ≤ 16 := by
  have := mnr_le A k D
  unfold est
  split <;> omega
theorem ap_in {L : Nat → List Nat} {Z : Nat → Nat} {g : Sg} {rec : Int32 → Int32 → Int32 → Option Int32} {r k : Nat} (hr : r < 3) (hL : okL 3 L) (h : RW 3 L Z g) (hk : k < 100) : ∀ (m i n c : Nat), (L r).length - i = m → i ≤ (L r).length → m < n → f5_appearancesOf_l16 3 g rec n (nI k) (nI c) (nI r) (nI i) = rec (nI k) (nI (c + cn k ((L r).drop i))) (nI (r + 1)) := by
  have hl := hL.len hr
  intro m
  induction m with
  | zero =>
    intro i n c e hi hn
    obtain ⟨n, rfl⟩ : ∃ k, n = k + 1 := ⟨n - 1, by omega⟩
    show f5_appearancesOf_b16 3 g rec (f5_appearancesOf_l16 3 g rec n) _ _ _ _ = _
    unfold f5_appearancesOf_b16
    simp (disch := omega) only [rd_n, ck_n, wr_n, cl_n, st_e, b2_e, bd_e, ltp, lep, eqp, m1p, m1l, m1e, m1a, nI_add, pk_sub, pk_mul, dvp, nzp, up_s, up_x, up_01, if_true, if_false, Nat.not_lt_zero, Nat.zero_add, z_0, z_1, z_2, z_3, z_4, z_5, z_10, z_11, z_15, z_20, z_30, z_63, z_64, z_99, z_100, z_127, z_128, z_200, z_256, z_300, z_400, z_500, z_600, z_601, z_602, z_603, z_604, z_605, z_606, z_862, z_990, z_1000, z_1090, z_1390, z_1393, z_1394, z_1395, z_1396, z_1397, z_1398, z_1399, z_1400, z_1401, z_1402, z_1403, z_1404, z_1405, z_1705, z_1805, z_7220, h.1 r hr, if_pos (show (L r).length ≤ i by omega)]
    rw [List.drop_eq_nil_of_le (by omega)]
    rfl
  | succ m ih =>
    intro i n c e hi hn
    obtain ⟨n, rfl⟩ : ∃ k, n = k + 1 := ⟨n - 1, by omega⟩
    have hlt : i < (L r).length := by omega
    have hg := (hL.1 r hr).2 _ (gt_mem hlt)
    show f5_appearancesOf_b16 3 g rec (f5_appearancesOf_l16 3 g rec n) _ _ _ _ = _
    unfold f5_appearancesOf_b16
    rw [dr_c hlt]
    show _ = rec (nI k) (nI (c + ((if gt (L r) i = k then 1 else 0) + cn k ((L r).drop (i + 1))))) (nI (r + 1))
    simp (disch := omega) only [rd_n, ck_n, wr_n, cl_n, st_e, b2_e, bd_e, ltp, lep, eqp, m1p, m1l, m1e, m1a, nI_add, pk_sub, pk_mul, dvp, nzp, up_s, up_x, up_01, if_true, if_false, Nat.not_lt_zero, Nat.zero_add, z_0, z_1, z_2, z_3, z_4, z_5, z_10, z_11, z_15, z_20, z_30, z_63, z_64, z_99, z_100, z_127, z_128, z_200, z_256, z_300, z_400, z_500, z_600, z_601, z_602, z_603, z_604, z_605, z_606, z_862, z_990, z_1000, z_1090, z_1390, z_1393, z_1394, z_1395, z_1396, z_1397, z_1398, z_1399, z_1400, z_1401, z_1402, z_1403, z_1404, z_1405, z_1705, z_1805, z_7220, h.1 r hr, if_neg (show ¬ (L r).length ≤ i by omega), h.2.2.1 r i hr hlt]
    by_cases e2 : gt (L r) i = k
    · rw [if_pos e2, if_pos e2, ih (i + 1) n (c + 1) (by omega) (by omega) (by omega), Nat.add_assoc]
    · rw [if_neg e2, if_neg e2, ih (i + 1) n c (by omega) (by omega) (by omega), Nat.zero_add]
theorem ap_all {w p q : List Nat} {Z : Nat → Nat} {g : Sg} {k : Nat} (hL : okL 3 (L3 w p q)) (h : RW 3 (L3 w p q) Z g) (hk : k < 100) : f5_appearancesOf 3 g (nI k) = some (nI (cn k w + cn k p + cn k q)) := by
  have hl0 : w.length ≤ 100 := hL.len (r := 0) (by decide)
  have hl1 : p.length ≤ 100 := hL.len (r := 1) (by decide)
  have hl2 : q.length ≤ 100 := hL.len (r := 2) (by decide)
  have e0 := ap_in (rec := f5_appearancesOf_l4 3 g 7999) (r := 0) (by decide) hL h hk w.length 0 NF 0 rfl (Nat.zero_le _) (by show _ < 8000; omega)
  have e1 := ap_in (rec := f5_appearancesOf_l4 3 g 7998) (r := 1) (by decide) hL h hk p.length 0 NF (0 + cn k w) rfl (Nat.zero_le _) (by show _ < 8000; omega)
  have e2 := ap_in (rec := f5_appearancesOf_l4 3 g 7997) (r := 2) (by decide) hL h hk q.length 0 NF (0 + cn k w + cn k p) rfl (Nat.zero_le _) (by show _ < 8000; omega)
  show f5_appearancesOf_b4 3 g (f5_appearancesOf_l4 3 g 7999) (nI k) (nI 0) (nI 0) = _
  unfold f5_appearancesOf_b4
  rw [if_neg (by decide)]
  refine Eq.trans e0 ?_
  show f5_appearancesOf_b4 3 g (f5_appearancesOf_l4 3 g 7998) (nI k) (nI (0 + cn k w)) (nI 1) = _
  unfold f5_appearancesOf_b4
  rw [if_neg (by decide)]
  refine Eq.trans e1 ?_
  show f5_appearancesOf_b4 3 g (f5_appearancesOf_l4 3 g 7997) (nI k) (nI (0 + cn k w + cn k p)) (nI 2) = _
  unfold f5_appearancesOf_b4
  rw [if_neg (by decide)]
  refine Eq.trans e2 ?_
  show f5_appearancesOf_b4 3 g (f5_appearancesOf_l4 3 g 7996) (nI k) (nI (0 + cn k w + cn k p + cn k q)) (nI 3) = _
  unfold f5_appearancesOf_b4
  rw [if_pos (by decide), Nat.zero_add]
theorem cu_l {L : Nat → List Nat} {Z : Nat → Nat} {g : Sg} {r : Nat} (hr : r < 3) (hL : okL 3 L) (h : RW 3 L Z g) : ∀ (m i n c : Nat), (L r).length - i = m → i ≤ (L r).length → m < n → f5_countedUnits_l4 3 g n (nI r) (nI c) (nI i) = some (nI (c + uS Z ((L r).drop i))) := by
  have hl := hL.len hr
  intro m
  induction m with
  | zero =>
    intro i n c e hi hn
    obtain ⟨n, rfl⟩ : ∃ k, n = k + 1 := ⟨n - 1, by omega⟩
    show f5_countedUnits_b4 3 g (f5_countedUnits_l4 3 g n) _ _ _ = _
    unfold f5_countedUnits_b4
    simp (disch := omega) only [rd_n, ck_n, wr_n, cl_n, st_e, b2_e, bd_e, ltp, lep, eqp, m1p, m1l, m1e, m1a, nI_add, pk_sub, pk_mul, dvp, nzp, up_s, up_x, up_01, if_true, if_false, Nat.not_lt_zero, Nat.zero_add, z_0, z_1, z_2, z_3, z_4, z_5, z_10, z_11, z_15, z_20, z_30, z_63, z_64, z_99, z_100, z_127, z_128, z_200, z_256, z_300, z_400, z_500, z_600, z_601, z_602, z_603, z_604, z_605, z_606, z_862, z_990, z_1000, z_1090, z_1390, z_1393, z_1394, z_1395, z_1396, z_1397, z_1398, z_1399, z_1400, z_1401, z_1402, z_1403, z_1404, z_1405, z_1705, z_1805, z_7220, h.1 r hr, if_pos (show (L r).length ≤ i by omega)]
    rw [List.drop_eq_nil_of_le (by omega)]
    rfl
  | succ m ih =>
    intro i n c e hi hn
    obtain ⟨n, rfl⟩ : ∃ k, n = k + 1 := ⟨n - 1, by omega⟩
    have hlt : i < (L r).length := by omega
    have hg := (hL.1 r hr).2 _ (gt_mem hlt)
    show f5_countedUnits_b4 3 g (f5_countedUnits_l4 3 g n) _ _ _ = _
    unfold f5_countedUnits_b4
    rw [dr_c hlt]
    show _ = some (nI (c + (Z (gt (L r) i) + uS Z ((L r).drop (i + 1)))))
    simp (disch := omega) only [rd_n, ck_n, wr_n, cl_n, st_e, b2_e, bd_e, ltp, lep, eqp, m1p, m1l, m1e, m1a, nI_add, pk_sub, pk_mul, dvp, nzp, up_s, up_x, up_01, if_true, if_false, Nat.not_lt_zero, Nat.zero_add, z_0, z_1, z_2, z_3, z_4, z_5, z_10, z_11, z_15, z_20, z_30, z_63, z_64, z_99, z_100, z_127, z_128, z_200, z_256, z_300, z_400, z_500, z_600, z_601, z_602, z_603, z_604, z_605, z_606, z_862, z_990, z_1000, z_1090, z_1390, z_1393, z_1394, z_1395, z_1396, z_1397, z_1398, z_1399, z_1400, z_1401, z_1402, z_1403, z_1404, z_1405, z_1705, z_1805, z_7220, h.1 r hr, if_neg (show ¬ (L r).length ≤ i by omega), h.2.2.1 r i hr hlt, h.2.2.2.2 _ hg]
    rw [ih (i + 1) n _ (by omega) (by omega) (by omega), Nat.add_assoc]
theorem cu_all {L : Nat → List Nat} {Z : Nat → Nat} {g : Sg} {r : Nat} (hr : r < 3) (hL : okL 3 L) (h : RW 3 L Z g) : f5_countedUnits 3 g (nI r) = some (nI (uS Z (L r))) := by
  have hl := hL.len hr
  have e := cu_l hr hL h (L r).length 0 NF 0 rfl (Nat.zero_le _) (by show _ < 8000; omega)
  rw [List.drop_zero, Nat.zero_add] at e
  exact e
theorem so_0 {D C : Nat} {s : AS} {S : Ob} (hC : C ≤ 200) (ho : okS D C s) (hS : RS D C s S) : f0_isSound S = some 1 := by
  obtain ⟨A, ⟨w, p, q⟩, Z, ⟨mode, W, step, per, ch, ca, cb⟩, ⟨o, acc, hits, dir⟩, T⟩ := s
  obtain ⟨k1, k2, k3, k4, k5, k7, k8, k9, k14, ⟨k15, k15b⟩, k16⟩ := ho
  obtain ⟨s1, s2, s3, s4, s5, s6, s7⟩ := hS
  have u0 : f5_countedUnits 3 (S 3) (nI 0) = some (nI (uS Z w)) := cu_all (L := L3 w p q) (by decide) k3 s2
  have u1 : f5_countedUnits 3 (S 3) (nI 1) = some (nI (uS Z p)) := cu_all (L := L3 w p q) (by decide) k3 s2
  have u2 : f5_countedUnits 3 (S 3) (nI 2) = some (nI (uS Z q)) := cu_all (L := L3 w p q) (by decide) k3 s2
  have hu := k16.2.1
  rw [uS_app] at hu
  have he : f0_isSound_j28 S = some 1 := by
    unfold f0_isSound_j28 f0_protectedLimit
    simp (disch := omega) only [rd_n, ck_n, wr_n, cl_n, st_e, b2_e, bd_e, ltp, lep, eqp, m1p, m1l, m1e, m1a, nI_add, pk_sub, pk_mul, dvp, nzp, up_s, up_x, up_01, if_true, if_false, Nat.not_lt_zero, Nat.zero_add, z_0, z_1, z_2, z_3, z_4, z_5, z_10, z_11, z_15, z_20, z_30, z_63, z_64, z_99, z_100, z_127, z_128, z_200, z_256, z_300, z_400, z_500, z_600, z_601, z_602, z_603, z_604, z_605, z_606, z_862, z_990, z_1000, z_1090, z_1390, z_1393, z_1394, z_1395, z_1396, z_1397, z_1398, z_1399, z_1400, z_1401, z_1402, z_1403, z_1404, z_1405, z_1705, z_1805, z_7220, u0, u1, u2, s3.1, s3.2.2.1, if_neg (show ¬ W < uS Z w by omega), if_neg (show ¬ C - W < uS Z p + uS Z q by omega), if_neg (show ¬ (C - W) * 4 / 5 < uS Z q by omega)]
  have hl : ∀ (m i n : Nat), 100 - i = m → i ≤ 100 → m < n → f0_isSound_l2 S n (nI i) = some 1 := by
    intro m
    induction m with
    | zero =>
      intro i n e hi hn
      obtain ⟨n, rfl⟩ : ∃ k, n = k + 1 := ⟨n - 1, by omega⟩
      show f0_isSound_b2 S (f0_isSound_l2 S n) _ = _
      unfold f0_isSound_b2
      rw [if_pos (show (100 : Int32) ≤ nI i by rw [z_100, lep (by omega) (by omega)]; omega)]
      exact he
    | succ m ih =>
      intro i n e hi hn
      obtain ⟨n, rfl⟩ : ∃ k, n = k + 1 := ⟨n - 1, by omega⟩
      have hc := cn3 (k := i) k3
      show f0_isSound_b2 S (f0_isSound_l2 S n) _ = _
      unfold f0_isSound_b2
      rw [if_neg (show ¬ (100 : Int32) ≤ nI i by rw [z_100, lep (by omega) (by omega)]; omega), ap_all k3 s2 (by omega), bd_e, if_pos (show nI (cn i w + cn i p + cn i q) ≤ 1 by rw [z_1, lep (by omega) (by omega)]; exact hc), z_1, nI_add]
      exact ih (i + 1) n (by omega) (by omega) (by omega)
  exact hl 100 0 NF rfl (by omega) (by decide)
theorem so_7 {D : Nat} {A : AK} {g : Sg} (hA : okK D A) (h3 : kS A 3 ≤ 1000) (hR : RK D A g) : f7_isSound g = some 1 := by
  have hD := hA.2.1
  have hk : ∀ (m i n : Nat), 100 - i = m → i ≤ 100 → m < n → f7_isSound_l58 g n (nI i) = some 1 := by
    intro m
    induction m with
    | zero =>
      intro i n e hi hn
      obtain ⟨n, rfl⟩ : ∃ k, n = k + 1 := ⟨n - 1, by omega⟩
      show f7_isSound_b58 g (f7_isSound_l58 g n) _ = _
      unfold f7_isSound_b58
      rw [if_pos (show (100 : Int32) ≤ nI i by rw [z_100, lep (by omega) (by omega)]; omega)]
    | succ m ih =>
      intro i n e hi hn
      obtain ⟨n, rfl⟩ : ∃ k, n = k + 1 := ⟨n - 1, by omega⟩
      obtain ⟨t, t1, t2, t3⟩ := hR.2.2.2.2.2.2.2.2.2.2 i (by omega)
      have he := est_16 (D := D) (A := A) (k := i)
      show f7_isSound_b58 g (f7_isSound_l58 g n) _ = _
      unfold f7_isSound_b58
      rw [if_neg (show ¬ (100 : Int32) ≤ nI i by rw [z_100, lep (by omega) (by omega)]; omega), pk_guess hA hR (by omega), bd_e, rd_n (by omega) (by omega), t1, z_15, min_n (by omega) (by omega), if_pos (show nI (min t 15) ≤ nI (est D A i) by rw [lep (by omega) (by omega)]; omega), z_1, nI_add]
      exact ih (i + 1) n (by omega) (by omega) (by omega)
  have hin : ∀ (rec : Int32 → Option Int32) (r : Nat), r < 4 → ∀ (m i n : Nat), 64 - i = m → i ≤ 64 → m < n → f7_isSound_l12 g rec n (nI r) (nI i) = rec (nI (r + 1)) := by
    intro rec r hr m
    induction m with
    | zero =>
      intro i n e hi hn
      obtain ⟨n, rfl⟩ : ∃ k, n = k + 1 := ⟨n - 1, by omega⟩
      show f7_isSound_b12 g rec (f7_isSound_l12 g rec n) _ _ = _
      unfold f7_isSound_b12
      simp (disch := omega) only [rd_n, ck_n, wr_n, cl_n, st_e, b2_e, bd_e, ltp, lep, eqp, m1p, m1l, m1e, m1a, nI_add, pk_sub, pk_mul, dvp, nzp, up_s, up_x, up_01, if_true, if_false, Nat.not_lt_zero, Nat.zero_add, z_0, z_1, z_2, z_3, z_4, z_5, z_10, z_11, z_15, z_20, z_30, z_63, z_64, z_99, z_100, z_127, z_128, z_200, z_256, z_300, z_400, z_500, z_600, z_601, z_602, z_603, z_604, z_605, z_606, z_862, z_990, z_1000, z_1090, z_1390, z_1393, z_1394, z_1395, z_1396, z_1397, z_1398, z_1399, z_1400, z_1401, z_1402, z_1403, z_1404, z_1405, z_1705, z_1805, z_7220, if_pos (show 64 ≤ i by omega)]
    | succ m ih =>
      intro i n e hi hn
      obtain ⟨n, rfl⟩ : ∃ k, n = k + 1 := ⟨n - 1, by omega⟩
      have hc := hA.2.2.2.2.1 r i hr (by omega)
      have hg := hR.2.2.2.2.2.2.2.2.1 r i hr (by omega)
      show f7_isSound_b12 g rec (f7_isSound_l12 g rec n) _ _ = _
      unfold f7_isSound_b12
      simp (disch := omega) only [rd_n, ck_n, wr_n, cl_n, st_e, b2_e, bd_e, ltp, lep, eqp, m1p, m1l, m1e, m1a, nI_add, pk_sub, pk_mul, dvp, nzp, up_s, up_x, up_01, if_true, if_false, Nat.not_lt_zero, Nat.zero_add, z_0, z_1, z_2, z_3, z_4, z_5, z_10, z_11, z_15, z_20, z_30, z_63, z_64, z_99, z_100, z_127, z_128, z_200, z_256, z_300, z_400, z_500, z_600, z_601, z_602, z_603, z_604, z_605, z_606, z_862, z_990, z_1000, z_1090, z_1390, z_1393, z_1394, z_1395, z_1396, z_1397, z_1398, z_1399, z_1400, z_1401, z_1402, z_1403, z_1404, z_1405, z_1705, z_1805, z_7220, if_neg (show ¬ 64 ≤ i by omega), hg, if_pos (show kC A r i ≤ 15 by omega)]
      exact ih (i + 1) n (by omega) (by omega) (by omega)
  have hrow : ∀ (m r n : Nat), D - r = m → r ≤ D → m < n → f7_isSound_l2 g n (nI r) = some 1 := by
    intro m
    induction m with
    | zero =>
      intro r n e hr hn
      obtain ⟨n, rfl⟩ : ∃ k, n = k + 1 := ⟨n - 1, by omega⟩
      show f7_isSound_b2 g (f7_isSound_l2 g n) _ = _
      unfold f7_isSound_b2
      rw [hR.1, if_pos (show nI D ≤ nI r by rw [lep (by omega) (by omega)]; omega)]
      exact hk 100 0 NF rfl (by omega) (by decide)
    | succ m ih =>
      intro r n e hr hn
      obtain ⟨n, rfl⟩ : ∃ k, n = k + 1 := ⟨n - 1, by omega⟩
      show f7_isSound_b2 g (f7_isSound_l2 g n) _ = _
      unfold f7_isSound_b2
      rw [hR.1, if_neg (show ¬ nI D ≤ nI r by rw [lep (by omega) (by omega)]; omega)]
      refine Eq.trans (hin (f7_isSound_l2 g n) r (by omega) 64 0 NF rfl (by omega) (by decide)) ?_
      exact ih (r + 1) n (by omega) (by omega) (by omega)
  exact hrow D 0 NF rfl (by omega) (by show _ < 8000; omega)
theorem sm_in {L : Nat → List Nat} {Z : Nat → Nat} {g : Sg} {rec60 : Int32 → Int32 → Option Int32} {rec : Int32 → Int32 → Int32 → Int32 → Option Int32} {v : Int32} {r k : Nat} (hr : r < 3) (hL : okL 3 L) (h : RQ L Z (g 1)) (hk : k < 100) : ∀ (m i n c : Nat), (L r).length - i = m → i ≤ (L r).length → m < n → f11_sound_l80 g rec60 rec n v (nI k) (nI c) (nI r) (nI i) = rec v (nI k) (nI (c + cn k ((L r).drop i))) (nI (r + 1)) := by
  have hl := hL.len hr
  intro m
  induction m with
  | zero =>
    intro i n c e hi hn
    obtain ⟨n, rfl⟩ : ∃ k, n = k + 1 := ⟨n - 1, by omega⟩
    show f11_sound_b80 g rec60 rec (f11_sound_l80 g rec60 rec n) _ _ _ _ _ = _
    unfold f11_sound_b80
    rw [pm_len hr h, bd_e, if_pos (show nI (L r).length ≤ nI i by rw [lep (by omega) (by omega)]; omega), List.drop_eq_nil_of_le (by omega), z_1, nI_add]
    rfl
  | succ m ih =>
    intro i n c e hi hn
    obtain ⟨n, rfl⟩ : ∃ k, n = k + 1 := ⟨n - 1, by omega⟩
    have hlt : i < (L r).length := by omega
    have hg := (hL.1 r hr).2 _ (gt_mem hlt)
    show f11_sound_b80 g rec60 rec (f11_sound_l80 g rec60 rec n) _ _ _ _ _ = _
    unfold f11_sound_b80
    rw [dr_c hlt, pm_len hr h, bd_e, if_neg (show ¬ nI (L r).length ≤ nI i by rw [lep (by omega) (by omega)]; omega), pm_key hr h hl hlt, bd_e]
    show _ = rec v (nI k) (nI (c + ((if gt (L r) i = k then 1 else 0) + cn k ((L r).drop (i + 1))))) (nI (r + 1))
    by_cases e2 : gt (L r) i = k
    · rw [if_pos e2, if_pos (by rw [e2]), z_1, nI_add, nI_add, ih (i + 1) n (c + 1) (by omega) (by omega) (by omega), Nat.add_assoc]
    · rw [if_neg e2, if_neg (show ¬ nI (gt (L r) i) = nI k by rw [eqp (by omega) (by omega)]; exact e2), z_1, z_0, nI_add, nI_add, ih (i + 1) n (c + 0) (by omega) (by omega) (by omega), Nat.add_zero, Nat.zero_add]
theorem so_m {D C : Nat} {s : AS} {g : Sg} (hC : C ≤ 200) (h0 : g 0 0 = nI D) (h1 : g 0 1 = nI C) (ho : okS D C s) (hX : RX D C s (g 1)) : f11_sound g = some 1 := by
  obtain ⟨A, ⟨w, p, q⟩, Z, ⟨mode, W, step, per, ch, ca, cb⟩, ⟨o, acc, hits, dir⟩, T⟩ := s
  obtain ⟨k1, k2, k3, k4, k5, k7, k8, k9, k14, ⟨k15, k15b⟩, k16⟩ := ho
  obtain ⟨x1, x2, x3, xV⟩ := hX
  have q0 : f11_units g (nI 0) = some (nI (uS Z w)) := pm_units (L := L3 w p q) (by decide) k3 x3
  have q1 : f11_units g (nI 1) = some (nI (uS Z p)) := pm_units (L := L3 w p q) (by decide) k3 x3
  have q2 : f11_units g (nI 2) = some (nI (uS Z q)) := pm_units (L := L3 w p q) (by decide) k3 x3
  have hu := k16.2.1
  rw [uS_app] at hu
  have hl0 : w.length ≤ 100 := k3.len (r := 0) (by decide)
  have hl1 : p.length ≤ 100 := k3.len (r := 1) (by decide)
  have hl2 : q.length ≤ 100 := k3.len (r := 2) (by decide)
  have hcnt : ∀ (m i n : Nat), 256 - i = m → i ≤ 256 → m < n → f11_sound_l188 g n (nI 1) (nI i) = some 1 := by
    intro m
    induction m with
    | zero =>
      intro i n e hi hn
      obtain ⟨n, rfl⟩ : ∃ k, n = k + 1 := ⟨n - 1, by omega⟩
      show f11_sound_b188 g (f11_sound_l188 g n) _ _ = _
      unfold f11_sound_b188 f11_sound_j230
      rw [if_pos (show (256 : Int32) ≤ nI i by rw [z_256, lep (by omega) (by omega)]; omega), if_neg (by decide)]
    | succ m ih =>
      intro i n e hi hn
      obtain ⟨n, rfl⟩ : ∃ k, n = k + 1 := ⟨n - 1, by omega⟩
      have hc := k1.2.2.2.2.1 (i / 64) (i % 64) (by omega) (Nat.mod_lt _ (by decide))
      have hg := x1.2.2.2.2.2.1 (i / 64) (i % 64) (by omega) (Nat.mod_lt _ (by decide))
      rw [show 606 + 64 * (i / 64) + i % 64 = 606 + i by omega] at hg
      show f11_sound_b188 g (f11_sound_l188 g n) _ _ = _
      unfold f11_sound_b188 f11_in
      rw [if_neg (show ¬ (256 : Int32) ≤ nI i by rw [z_256, lep (by omega) (by omega)]; omega), if_neg (by decide)]
      simp (disch := omega) only [rd_n, ck_n, wr_n, cl_n, st_e, b2_e, bd_e, ltp, lep, eqp, m1p, m1l, m1e, m1a, nI_add, pk_sub, pk_mul, dvp, nzp, up_s, up_x, up_01, if_true, if_false, Nat.not_lt_zero, Nat.zero_add, z_0, z_1, z_2, z_3, z_4, z_5, z_10, z_11, z_15, z_20, z_30, z_63, z_64, z_99, z_100, z_127, z_128, z_200, z_256, z_300, z_400, z_500, z_600, z_601, z_602, z_603, z_604, z_605, z_606, z_862, z_990, z_1000, z_1090, z_1390, z_1393, z_1394, z_1395, z_1396, z_1397, z_1398, z_1399, z_1400, z_1401, z_1402, z_1403, z_1404, z_1405, z_1705, z_1805, z_7220, hg, if_neg (show ¬ 15 < kC A (i / 64) (i % 64) by omega)]
      rw [if_neg (show ¬ (1 : Nat) = 0 by decide)]
      exact ih (i + 1) n (by omega) (by omega) (by omega)
  have hj : ∀ (rec : Int32 → Int32 → Option Int32) (k c : Nat), k < 100 → c ≤ 1 → f11_sound_j123 g rec (nI 1) (nI k) (nI c) = rec (nI 1) (nI (k + 1)) := by
    intro rec k c hk hc
    obtain ⟨t, t1, t2, t3⟩ := x2 k hk
    have he := est_16 (D := D) (A := A) (k := k)
    have hE := pm_est k1 h0 x1 hk
    have n1 : ¬ nI 1 = 0 := by decide
    have n2 : ¬ (2 : Int32) ≤ nI c := by rw [z_2, lep (by omega) (by omega)]; omega
    unfold f11_sound_j123
    rw [z_1705, nI_add, rd_n (by omega) (by omega), rd_n (by omega) (by omega), t1, hE, if_neg n1, if_neg n1, if_neg n2, if_neg n2]
    simp only [bd_e]
    by_cases c1 : 15 ≤ t
    · rw [if_pos (show (15 : Int32) ≤ nI t by rw [z_15, lep (by omega) (by omega)]; exact c1), if_neg (show ¬ nI (est D A k) < 15 by rw [z_15, ltp (by omega) (by omega)]; omega), z_1, nI_add]
    · rw [if_neg (show ¬ (15 : Int32) ≤ nI t by rw [z_15, lep (by omega) (by omega)]; exact c1), if_neg (show ¬ nI (est D A k) < nI t by rw [ltp (by omega) (by omega)]; omega), z_1, nI_add]
  have hrow : ∀ (rec : Int32 → Int32 → Option Int32) (k : Nat), k < 100 → f11_sound_l71 g rec NF (nI 1) (nI k) (nI 0) (nI 0) = rec (nI 1) (nI (k + 1)) := by
    intro rec k hk
    have hc := cn3 (k := k) k3
    have e0 := sm_in (L := L3 w p q) (rec60 := rec) (rec := f11_sound_l71 g rec 7999) (v := nI 1) (r := 0) (by decide) k3 x3 hk w.length 0 NF 0 rfl (Nat.zero_le _) (by show _ < 8000; omega)
    have e1 := sm_in (L := L3 w p q) (rec60 := rec) (rec := f11_sound_l71 g rec 7998) (v := nI 1) (r := 1) (by decide) k3 x3 hk p.length 0 NF (0 + cn k w) rfl (Nat.zero_le _) (by show _ < 8000; omega)
    have e2 := sm_in (L := L3 w p q) (rec60 := rec) (rec := f11_sound_l71 g rec 7997) (v := nI 1) (r := 2) (by decide) k3 x3 hk q.length 0 NF (0 + cn k w + cn k p) rfl (Nat.zero_le _) (by show _ < 8000; omega)
    show f11_sound_b71 g rec (f11_sound_l71 g rec 7999) _ _ _ _ = _
    unfold f11_sound_b71
    rw [if_neg (by decide)]
    refine Eq.trans e0 ?_
    show f11_sound_b71 g rec (f11_sound_l71 g rec 7998) (nI 1) (nI k) (nI (0 + cn k w)) (nI 1) = _
    unfold f11_sound_b71
    rw [if_neg (by decide)]
    refine Eq.trans e1 ?_
    show f11_sound_b71 g rec (f11_sound_l71 g rec 7997) (nI 1) (nI k) (nI (0 + cn k w + cn k p)) (nI 2) = _
    unfold f11_sound_b71
    rw [if_neg (by decide)]
    refine Eq.trans e2 ?_
    show f11_sound_b71 g rec (f11_sound_l71 g rec 7996) (nI 1) (nI k) (nI (0 + cn k w + cn k p + cn k q)) (nI 3) = _
    unfold f11_sound_b71
    rw [if_pos (by decide)]
    exact hj rec k _ hk (by omega)
  have hkey : ∀ (m i n : Nat), 100 - i = m → i ≤ 100 → m < n → f11_sound_l60 g n (nI 1) (nI i) = some 1 := by
    intro m
    induction m with
    | zero =>
      intro i n e hi hn
      obtain ⟨n, rfl⟩ : ∃ k, n = k + 1 := ⟨n - 1, by omega⟩
      show f11_sound_b60 g (f11_sound_l60 g n) _ _ = _
      unfold f11_sound_b60
      rw [if_pos (show (100 : Int32) ≤ nI i by rw [z_100, lep (by omega) (by omega)]; omega)]
      exact hcnt 256 0 NF rfl (by omega) (by decide)
    | succ m ih =>
      intro i n e hi hn
      obtain ⟨n, rfl⟩ : ∃ k, n = k + 1 := ⟨n - 1, by omega⟩
      show f11_sound_b60 g (f11_sound_l60 g n) _ _ = _
      unfold f11_sound_b60
      rw [if_neg (show ¬ (100 : Int32) ≤ nI i by rw [z_100, lep (by omega) (by omega)]; omega)]
      refine Eq.trans (hrow (f11_sound_l60 g n) i (by omega)) ?_
      exact ih (i + 1) n (by omega) (by omega) (by omega)
  have hfin : f11_sound_l60 g NF (nI 1) (nI 0) = some (nI 1) := hkey 100 0 NF rfl (by omega) (by decide)
  unfold f11_sound f11_inMain
  simp (disch := omega) only [rd_n, ck_n, wr_n, cl_n, st_e, b2_e, bd_e, ltp, lep, eqp, m1p, m1l, m1e, m1a, nI_add, pk_sub, pk_mul, dvp, nzp, up_s, up_x, up_01, if_true, if_false, Nat.not_lt_zero, Nat.zero_add, z_0, z_1, z_2, z_3, z_4, z_5, z_10, z_11, z_15, z_20, z_30, z_63, z_64, z_99, z_100, z_127, z_128, z_200, z_256, z_300, z_400, z_500, z_600, z_601, z_602, z_603, z_604, z_605, z_606, z_862, z_990, z_1000, z_1090, z_1390, z_1393, z_1394, z_1395, z_1396, z_1397, z_1398, z_1399, z_1400, z_1401, z_1402, z_1403, z_1404, z_1405, z_1705, z_1805, z_7220, q0, q1, q2, xV.2.1.1, xV.2.1.2, h1, if_neg (show ¬ W < uS Z w by omega), if_neg (show ¬ C - W < uS Z p + uS Z q by omega), if_neg (show ¬ (C - W) * 4 / 5 < uS Z q by omega), hfin]
theorem sim_sound : Sim_sound Rel := by
  intro M h
  obtain ⟨D, C, s, sv, K, h⟩ := h
  refine ⟨1, ?_, so_m h.1.2 h.2.2.2.2.1.2.2.1 h.2.2.2.2.1.2.2.2 h.2.1 h.2.2.2.1⟩
  unfold f10_sound
  rw [so_0 h.1.2 h.2.1 h.2.2.1, bd_e, if_neg (by decide)]
  have a1 := h.2.1
  have a2 := h.2.2.1
  obtain ⟨A, ⟨w, p, q⟩, Z, ⟨mode, W, step, per, ch, ca, cb⟩, ⟨o, acc, hits, dir⟩, T⟩ := s
  rw [so_7 a1.1 a1.2.1 a2.1, bd_e, if_neg (by decide)]
