theorem rot_0 {l : List Nat} : rotN 0 l = l := by cases l <;> rfl
theorem pm_tg2 {Z : Nat → Nat} {g : Sg} {w p : List Nat} {k a b f : Nat} (hZ : ∀ k, k < 100 → 1 ≤ Z k ∧ Z k ≤ 20) (hf : f ≤ 1) (hb : b ≤ 200) : ∀ (m i n : Nat) (q : List Nat) (x : Nat → Int32), i + m = b → m < n → m ≤ q.length → okL 3 (L3 w p q) → RQ (L3 w p q) Z x → ∃ y, f11_together_l167 n (nI k) (nI a) (nI b) (nI f) (nI i) (va_up g 1 x) = f11_together_j200 (nI k) (nI a) (nI b) (nI f) (va_up g 1 y) ∧ RQ (L3 w p (if f = 0 then rotN m q else q.drop m)) Z y ∧ QF x y ∧ okL 3 (L3 w p (if f = 0 then rotN m q else q.drop m)) := by
  intro m
  induction m with
  | zero =>
    intro i n q x h1 h2 h3 hok hR
    match n, h2 with
    | n + 1, _ =>
      show ∃ y, f11_together_b167 (f11_together_l167 n) (nI k) (nI a) (nI b) (nI f) (nI i) (va_up g 1 x) = _ ∧ _
      unfold f11_together_b167
      have e : (if f = 0 then rotN 0 q else q.drop 0) = q := by rw [rot_0, List.drop_zero, ite_self]
      rw [e]
      simp (disch := omega) only [rd_n, ck_n, wr_n, cl_n, st_e, b2_e, bd_e, ltp, lep, eqp, m1p, m1l, m1e, m1a, nI_add, pk_sub, pk_mul, dvp, nzp, up_s, up_x, up_01, if_true, if_false, Nat.not_lt_zero, Nat.zero_add, z_0, z_1, z_2, z_3, z_4, z_5, z_10, z_11, z_15, z_20, z_30, z_63, z_64, z_99, z_100, z_127, z_128, z_200, z_256, z_300, z_400, z_500, z_600, z_601, z_602, z_603, z_604, z_605, z_606, z_862, z_990, z_1000, z_1090, z_1390, z_1393, z_1394, z_1395, z_1396, z_1397, z_1398, z_1399, z_1400, z_1401, z_1402, z_1403, z_1404, z_1405, z_1705, z_1805, z_7220, if_pos (show b ≤ i by omega)]
      exact ⟨x, rfl, hR, fun _ _ => rfl, hok⟩
  | succ m ih =>
    intro i n q x h1 h2 h3 hok hR
    match n, h2, q, h3, hok, hR with
    | n + 1, h2, [], h3, hok, hR => simp at h3
    | n + 1, h2, kk :: q, h3, hok, hR =>
      obtain ⟨y1, a1, a2, a3, a4⟩ := pm_tk2 (g := g) hok hR
      have hkk := (ok_h2 hok).1
      show ∃ y, f11_together_b167 (f11_together_l167 n) (nI k) (nI a) (nI b) (nI f) (nI i) (va_up g 1 x) = _ ∧ _
      unfold f11_together_b167
      by_cases h0 : f = 0
      · rw [if_pos h0]
        have hnm : ∀ r, r < 3 → kk ∉ L3 w p q r := fun r hr => by rw [← L3_d2 hok]; exact out_nm hok hr
        obtain ⟨y2, b1, b2, b3⟩ := pm_app (g := g) (r := 2) (k := kk) (by decide) a4 a2 (a4.lt (r := 2) (by decide) hkk (hnm 2 (by decide)))
        have b4 := ok_app (r := 2) a4 hkk hnm
        rw [L3_a2] at b2 b4
        obtain ⟨y, i1, i2, i3, i4⟩ := ih (i + 1) n (q ++ [kk]) y2 (by omega) (by omega) (by simp at h3 ⊢; omega) b4 b2
        rw [if_pos h0] at i2 i4
        simp (disch := omega) only [rd_n, ck_n, wr_n, cl_n, st_e, b2_e, bd_e, ltp, lep, eqp, m1p, m1l, m1e, m1a, nI_add, pk_sub, pk_mul, dvp, nzp, up_s, up_x, up_01, if_true, if_false, Nat.not_lt_zero, Nat.zero_add, z_0, z_1, z_2, z_3, z_4, z_5, z_10, z_11, z_15, z_20, z_30, z_63, z_64, z_99, z_100, z_127, z_128, z_200, z_256, z_300, z_400, z_500, z_600, z_601, z_602, z_603, z_604, z_605, z_606, z_862, z_990, z_1000, z_1090, z_1390, z_1393, z_1394, z_1395, z_1396, z_1397, z_1398, z_1399, z_1400, z_1401, z_1402, z_1403, z_1404, z_1405, z_1705, z_1805, z_7220, if_neg (show ¬ b ≤ i by omega), a1, if_pos h0, b1]
        exact ⟨y, i1, i2, (a3.t b3).t i3, i4⟩
      · rw [if_neg h0]
        obtain ⟨y, i1, i2, i3, i4⟩ := ih (i + 1) n q y1 (by omega) (by omega) (by simp at h3 ⊢; omega) a4 a2
        rw [if_neg h0] at i2 i4
        simp (disch := omega) only [rd_n, ck_n, wr_n, cl_n, st_e, b2_e, bd_e, ltp, lep, eqp, m1p, m1l, m1e, m1a, nI_add, pk_sub, pk_mul, dvp, nzp, up_s, up_x, up_01, if_true, if_false, Nat.not_lt_zero, Nat.zero_add, z_0, z_1, z_2, z_3, z_4, z_5, z_10, z_11, z_15, z_20, z_30, z_63, z_64, z_99, z_100, z_127, z_128, z_200, z_256, z_300, z_400, z_500, z_600, z_601, z_602, z_603, z_604, z_605, z_606, z_862, z_990, z_1000, z_1090, z_1390, z_1393, z_1394, z_1395, z_1396, z_1397, z_1398, z_1399, z_1400, z_1401, z_1402, z_1403, z_1404, z_1405, z_1705, z_1805, z_7220, if_neg (show ¬ b ≤ i by omega), a1, if_neg h0]
        exact ⟨y, i1, i2, a3.t i3, i4⟩
theorem pm_tg1 {Z : Nat → Nat} {g : Sg} {w q : List Nat} {k a b f : Nat} (hZ : ∀ k, k < 100 → 1 ≤ Z k ∧ Z k ≤ 20) (hf : f ≤ 1) (ha : a ≤ 200) : ∀ (m i n : Nat) (p : List Nat) (x : Nat → Int32), i + m = a → m < n → m ≤ p.length → okL 3 (L3 w p q) → RQ (L3 w p q) Z x → ∃ y, f11_together_l132 n (nI k) (nI a) (nI b) (nI f) (nI i) (va_up g 1 x) = f11_together_j164 (nI k) (nI a) (nI b) (nI f) (va_up g 1 y) ∧ RQ (L3 w (if f = 0 then rotN m p else p.drop m) q) Z y ∧ QF x y ∧ okL 3 (L3 w (if f = 0 then rotN m p else p.drop m) q) := by
  intro m
  induction m with
  | zero =>
    intro i n p x h1 h2 h3 hok hR
    match n, h2 with
    | n + 1, _ =>
      show ∃ y, f11_together_b132 (f11_together_l132 n) (nI k) (nI a) (nI b) (nI f) (nI i) (va_up g 1 x) = _ ∧ _
      unfold f11_together_b132
      have e : (if f = 0 then rotN 0 p else p.drop 0) = p := by rw [rot_0, List.drop_zero, ite_self]
      rw [e]
      simp (disch := omega) only [rd_n, ck_n, wr_n, cl_n, st_e, b2_e, bd_e, ltp, lep, eqp, m1p, m1l, m1e, m1a, nI_add, pk_sub, pk_mul, dvp, nzp, up_s, up_x, up_01, if_true, if_false, Nat.not_lt_zero, Nat.zero_add, z_0, z_1, z_2, z_3, z_4, z_5, z_10, z_11, z_15, z_20, z_30, z_63, z_64, z_99, z_100, z_127, z_128, z_200, z_256, z_300, z_400, z_500, z_600, z_601, z_602, z_603, z_604, z_605, z_606, z_862, z_990, z_1000, z_1090, z_1390, z_1393, z_1394, z_1395, z_1396, z_1397, z_1398, z_1399, z_1400, z_1401, z_1402, z_1403, z_1404, z_1405, z_1705, z_1805, z_7220, if_pos (show a ≤ i by omega)]
      exact ⟨x, rfl, hR, fun _ _ => rfl, hok⟩
  | succ m ih =>
    intro i n p x h1 h2 h3 hok hR
    match n, h2, p, h3, hok, hR with
    | n + 1, h2, [], h3, hok, hR => simp at h3
    | n + 1, h2, kk :: p, h3, hok, hR =>
      obtain ⟨y1, a1, a2, a3, a4⟩ := pm_tk1 (g := g) hok hR
      have hkk := (ok_h1 hok).1
      show ∃ y, f11_together_b132 (f11_together_l132 n) (nI k) (nI a) (nI b) (nI f) (nI i) (va_up g 1 x) = _ ∧ _
      unfold f11_together_b132
      by_cases h0 : f = 0
      · rw [if_pos h0]
        have hnm : ∀ r, r < 3 → kk ∉ L3 w p q r := fun r hr => by rw [← L3_d1 hok]; exact out_nm hok hr
        obtain ⟨y2, b1, b2, b3⟩ := pm_app (g := g) (r := 1) (k := kk) (by decide) a4 a2 (a4.lt (r := 1) (by decide) hkk (hnm 1 (by decide)))
        have b4 := ok_app (r := 1) a4 hkk hnm
        rw [L3_a1] at b2 b4
        obtain ⟨y, i1, i2, i3, i4⟩ := ih (i + 1) n (p ++ [kk]) y2 (by omega) (by omega) (by simp at h3 ⊢; omega) b4 b2
        rw [if_pos h0] at i2 i4
        simp (disch := omega) only [rd_n, ck_n, wr_n, cl_n, st_e, b2_e, bd_e, ltp, lep, eqp, m1p, m1l, m1e, m1a, nI_add, pk_sub, pk_mul, dvp, nzp, up_s, up_x, up_01, if_true, if_false, Nat.not_lt_zero, Nat.zero_add, z_0, z_1, z_2, z_3, z_4, z_5, z_10, z_11, z_15, z_20, z_30, z_63, z_64, z_99, z_100, z_127, z_128, z_200, z_256, z_300, z_400, z_500, z_600, z_601, z_602, z_603, z_604, z_605, z_606, z_862, z_990, z_1000, z_1090, z_1390, z_1393, z_1394, z_1395, z_1396, z_1397, z_1398, z_1399, z_1400, z_1401, z_1402, z_1403, z_1404, z_1405, z_1705, z_1805, z_7220, if_neg (show ¬ a ≤ i by omega), a1, if_pos h0, b1]
        exact ⟨y, i1, i2, (a3.t b3).t i3, i4⟩
      · rw [if_neg h0]
        obtain ⟨y, i1, i2, i3, i4⟩ := ih (i + 1) n p y1 (by omega) (by omega) (by simp at h3 ⊢; omega) a4 a2
        rw [if_neg h0] at i2 i4
        simp (disch := omega) only [rd_n, ck_n, wr_n, cl_n, st_e, b2_e, bd_e, ltp, lep, eqp, m1p, m1l, m1e, m1a, nI_add, pk_sub, pk_mul, dvp, nzp, up_s, up_x, up_01, if_true, if_false, Nat.not_lt_zero, Nat.zero_add, z_0, z_1, z_2, z_3, z_4, z_5, z_10, z_11, z_15, z_20, z_30, z_63, z_64, z_99, z_100, z_127, z_128, z_200, z_256, z_300, z_400, z_500, z_600, z_601, z_602, z_603, z_604, z_605, z_606, z_862, z_990, z_1000, z_1090, z_1390, z_1393, z_1394, z_1395, z_1396, z_1397, z_1398, z_1399, z_1400, z_1401, z_1402, z_1403, z_1404, z_1405, z_1705, z_1805, z_7220, if_neg (show ¬ a ≤ i by omega), a1, if_neg h0]
        exact ⟨y, i1, i2, a3.t i3, i4⟩
theorem pm_tg0 {D : Nat} {A : AK} {Z : Nat → Nat} {g : Sg} {w p q : List Nat} {k wanted : Nat} (hA : okK D A) (h0 : g 0 0 = nI D) (hZ : ∀ k, k < 100 → 1 ≤ Z k ∧ Z k ≤ 20) (hok : okL 3 (L3 w p q)) (hR : RQ (L3 w p q) Z (g 1)) (hN : RN A (g 1)) (hw : wanted < 100000) : ∀ (n i freed sum : Nat), i ≤ (p ++ q).length → (p ++ q).length - i < n → wanted ≤ freed + uS Z ((p ++ q).drop i) → freed ≤ 20 * i → sum ≤ 16 * i → f11_together_l30 n (nI k) (nI (min i p.length)) (nI (i - p.length)) (nI freed) (nI sum) (nI wanted) g = f11_together_j112 (nI k) (nI (min (i + need Z (wanted - freed) ((p ++ q).drop i)) p.length)) (nI (i + need Z (wanted - freed) ((p ++ q).drop i) - p.length)) (nI (sum + uS (est D A) (((p ++ q).drop i).take (need Z (wanted - freed) ((p ++ q).drop i))))) g := by
  have hlen := v_len hok
  have hp1 : p.length ≤ 100 := hok.len (r := 1) (by decide)
  have hq1 : q.length ≤ 100 := hok.len (r := 2) (by decide)
  intro n
  induction n with
  | zero => intro i freed sum h1 h2; omega
  | succ n ih =>
    intro i freed sum h1 h2 h3 h4 h5
    show f11_together_b30 (f11_together_l30 n) (nI k) (nI (min i p.length)) (nI (i - p.length)) (nI freed) (nI sum) (nI wanted) g = _
    unfold f11_together_b30
    by_cases hd : wanted ≤ freed
    · rw [show wanted - freed = 0 by omega, need_0, Nat.add_zero, List.take_zero]
      simp (disch := omega) only [rd_n, ck_n, wr_n, cl_n, st_e, b2_e, bd_e, ltp, lep, eqp, m1p, m1l, m1e, m1a, nI_add, pk_sub, pk_mul, dvp, nzp, up_s, up_x, up_01, if_true, if_false, Nat.not_lt_zero, Nat.zero_add, z_0, z_1, z_2, z_3, z_4, z_5, z_10, z_11, z_15, z_20, z_30, z_63, z_64, z_99, z_100, z_127, z_128, z_200, z_256, z_300, z_400, z_500, z_600, z_601, z_602, z_603, z_604, z_605, z_606, z_862, z_990, z_1000, z_1090, z_1390, z_1393, z_1394, z_1395, z_1396, z_1397, z_1398, z_1399, z_1400, z_1401, z_1402, z_1403, z_1404, z_1405, z_1705, z_1805, z_7220, if_pos hd]
      rfl
    · have hi : i < (p ++ q).length := by
        by_cases e : i < (p ++ q).length
        · exact e
        · rw [List.drop_eq_nil_of_le (by omega)] at h3
          have h3 : wanted ≤ freed + 0 := h3
          omega
      have hk := v_lt hok hi
      have hzk := hZ _ hk
      have hek := pm_est (g := g) hA h0 hN hk
      have hbk := est_le (D := D) (A := A) (k := gt (p ++ q) i)
      have e9 := hR.2.2 _ hk
      have el : f11_length g (nI 1) = some (nI p.length) := pm_len (L := L3 w p q) (r := 1) (by decide) hR
      rw [dr_c hi] at h3 ⊢
      have h3 : wanted ≤ freed + (Z (gt (p ++ q) i) + uS Z ((p ++ q).drop (i + 1))) := h3
      have hne : need Z (wanted - freed) (gt (p ++ q) i :: (p ++ q).drop (i + 1)) = need Z (wanted - freed - Z (gt (p ++ q) i)) ((p ++ q).drop (i + 1)) + 1 := if_neg (by omega)
      rw [hne, List.take_succ_cons]
      have e := ih (i + 1) (freed + Z (gt (p ++ q) i)) (sum + est D A (gt (p ++ q) i)) (by omega) (by omega) (by omega) (by omega) (by omega)
      rw [show wanted - (freed + Z (gt (p ++ q) i)) = wanted - freed - Z (gt (p ++ q) i) by omega] at e
      have e2 : f11_together_l30 n (nI k) (nI (min (i + 1) p.length)) (nI (i + 1 - p.length)) (nI (freed + Z (gt (p ++ q) i))) (nI (sum + est D A (gt (p ++ q) i))) (nI wanted) g = f11_together_j112 (nI k) (nI (min (i + (need Z (wanted - freed - Z (gt (p ++ q) i)) ((p ++ q).drop (i + 1)) + 1)) p.length)) (nI (i + (need Z (wanted - freed - Z (gt (p ++ q) i)) ((p ++ q).drop (i + 1)) + 1) - p.length)) (nI (sum + uS (est D A) (gt (p ++ q) i :: ((p ++ q).drop (i + 1)).take (need Z (wanted - freed - Z (gt (p ++ q) i)) ((p ++ q).drop (i + 1)))))) g := by
        rw [e]
        congr 2
        · congr 1
          omega
        · congr 1
          omega
        · show _ = sum + (est D A (gt (p ++ q) i) + _)
          omega
      rw [← e2]
      rw [List.length_append] at hi
      unfold f11_together_j82
      by_cases hip : i < p.length
      · have ek : f11_keyAt g (nI 1) (nI i) = some (nI (gt (p ++ q) i)) := by
          rw [gt_al hip]
          exact pm_key (L := L3 w p q) (r := 1) (by decide) hR hp1 hip
        rw [show min i p.length = i by omega, show min (i + 1) p.length = i + 1 by omega, show i + 1 - p.length = i - p.length by omega]
        simp (disch := omega) only [rd_n, ck_n, wr_n, cl_n, st_e, b2_e, bd_e, ltp, lep, eqp, m1p, m1l, m1e, m1a, nI_add, pk_sub, pk_mul, dvp, nzp, up_s, up_x, up_01, if_true, if_false, Nat.not_lt_zero, Nat.zero_add, z_0, z_1, z_2, z_3, z_4, z_5, z_10, z_11, z_15, z_20, z_30, z_63, z_64, z_99, z_100, z_127, z_128, z_200, z_256, z_300, z_400, z_500, z_600, z_601, z_602, z_603, z_604, z_605, z_606, z_862, z_990, z_1000, z_1090, z_1390, z_1393, z_1394, z_1395, z_1396, z_1397, z_1398, z_1399, z_1400, z_1401, z_1402, z_1403, z_1404, z_1405, z_1705, z_1805, z_7220, if_neg hd, el, if_neg (show ¬ p.length ≤ i by omega), ek, e9, hek]
      · have ek : f11_keyAt g (nI 2) (nI (i - p.length)) = some (nI (gt (p ++ q) i)) := by
          rw [gt_app, if_neg hip]
          exact pm_key (L := L3 w p q) (r := 2) (by decide) hR hq1 (by show _ < q.length; omega)
        rw [show min i p.length = p.length by omega, show min (i + 1) p.length = p.length by omega, show i + 1 - p.length = i - p.length + 1 by omega]
        simp (disch := omega) only [rd_n, ck_n, wr_n, cl_n, st_e, b2_e, bd_e, ltp, lep, eqp, m1p, m1l, m1e, m1a, nI_add, pk_sub, pk_mul, dvp, nzp, up_s, up_x, up_01, if_true, if_false, Nat.not_lt_zero, Nat.zero_add, z_0, z_1, z_2, z_3, z_4, z_5, z_10, z_11, z_15, z_20, z_30, z_63, z_64, z_99, z_100, z_127, z_128, z_200, z_256, z_300, z_400, z_500, z_600, z_601, z_602, z_603, z_604, z_605, z_606, z_862, z_990, z_1000, z_1090, z_1390, z_1393, z_1394, z_1395, z_1396, z_1397, z_1398, z_1399, z_1400, z_1401, z_1402, z_1403, z_1404, z_1405, z_1705, z_1805, z_7220, if_neg hd, el, Nat.le_refl, ek, e9, hek]
theorem uS_drop_le {Z : Nat → Nat} : ∀ (l : List Nat) (n : Nat), uS Z (l.drop n) ≤ uS Z l
  | [], n => by simp
  | k :: l, 0 => Nat.le_refl _
  | k :: l, n + 1 => by
    have := uS_drop_le (Z := Z) l n
    show uS Z (l.drop n) ≤ Z k + uS Z l
    omega
theorem pm_tog {D : Nat} {A : AK} {Z : Nat → Nat} {g : Sg} {x : Nat → Int32} {w p q : List Nat} {most k : Nat} (hA : okK D A) (h0 : g 0 0 = nI D) (hZ : ∀ k, k < 100 → 1 ≤ Z k ∧ Z k ≤ 20) (hmost : most < 1000) (hk : k < 100) (hzm : Z k ≤ most) (hok : okL 3 (L3 w p q)) (hR : RQ (L3 w p q) Z x) (hN : RN A x) (hkn : ∀ r, r < 3 → k ∉ L3 w p q r) (hl : most < uS Z (p ++ q) + Z k) : ∃ y, f11_together (nI k) (nI most) (va_up g 1 x) = some (va_up g 1 y) ∧ RQ (L3 w (jd Z (est D A) 1 most k p q).1 (jd Z (est D A) 1 most k p q).2.1) Z y ∧ OF x y ∧ y 1399 = x 1399 + nI (jd Z (est D A) 1 most k p q).2.2 := by
  have hlen := v_len hok
  have hus := v_us hok hZ
  have hzk := hZ k hk
  have hp1 : p.length ≤ 100 := hok.len (r := 1) (by decide)
  have hq1 : q.length ≤ 100 := hok.len (r := 2) (by decide)
  have em := pm_main (g := va_up g 1 x) hok hR
  have e9 := hR.2.2 k hk
  have hek := pm_est (g := va_up g 1 x) hA h0 hN hk
  have hbk := est_le (D := D) (A := A) (k := k)
  have t0 := pm_tg0 (g := va_up g 1 x) (k := k) (wanted := uS Z (p ++ q) + Z k - most) hA h0 hZ hok hR hN (by omega) NF 0 0 0 (by omega) (by show _ < 8000; omega) (by rw [List.drop_zero]; omega) (by omega) (by omega)
  rw [Nat.zero_min, Nat.zero_sub, Nat.sub_zero, List.drop_zero, Nat.zero_add, Nat.zero_add, show need Z (uS Z (p ++ q) + Z k - most) (p ++ q) = jn0 Z most k (p ++ q) from rfl] at t0
  have h0l := jn0_le (Z := Z) (most := most) (c := k) (v := p ++ q)
  have h0l2 := h0l
  rw [List.length_append] at h0l2
  have hn0 : jn0 Z most k (p ++ q) ≠ 0 := by
    have hv : p ++ q ≠ [] := by
      intro e
      rw [e] at hl
      have hl : most < 0 + Z k := hl
      omega
    match hpq : p ++ q, hv with
    | kk :: v, _ =>
      rw [hpq] at hl
      rw [jn0_s hl]
      omega
  have hsb : uS (est D A) ((p ++ q).take (jn0 Z most k (p ++ q))) ≤ 3200 := by
    have : ∀ l : List Nat, uS (est D A) l ≤ 16 * l.length := by
      intro l
      induction l with
      | nil => exact Nat.le_refl 0
      | cons a l ih =>
        have := est_le (D := D) (A := A) (k := a)
        show est D A a + uS (est D A) l ≤ 16 * (l.length + 1)
        omega
    have := this ((p ++ q).take (jn0 Z most k (p ++ q)))
    rw [List.length_take] at this
    omega
  have hj : jd Z (est D A) 1 most k p q = if jn1 Z (est D A) 1 most k (p ++ q) = jn0 Z most k (p ++ q) then (p.drop (jn0 Z most k (p ++ q)) ++ [k], q.drop (jn0 Z most k (p ++ q) - p.length), jn0 Z most k (p ++ q)) else (rotN (min (jn0 Z most k (p ++ q)) p.length) p, rotN (jn0 Z most k (p ++ q) - p.length) q, 1) := by
    unfold jd
    rw [if_neg (by omega)]
    congr 1
  have hj1 : jn1 Z (est D A) 1 most k (p ++ q) = if uS (est D A) ((p ++ q).take (jn0 Z most k (p ++ q))) < est D A k then jn0 Z most k (p ++ q) else 0 := by
    unfold jn1
    rw [if_neg (by decide), if_neg (by decide)]
  unfold f11_together
  simp (disch := omega) only [rd_n, ck_n, wr_n, cl_n, st_e, b2_e, bd_e, ltp, lep, eqp, m1p, m1l, m1e, m1a, nI_add, pk_sub, pk_mul, dvp, nzp, up_s, up_x, up_01, if_true, if_false, Nat.not_lt_zero, Nat.zero_add, z_0, z_1, z_2, z_3, z_4, z_5, z_10, z_11, z_15, z_20, z_30, z_63, z_64, z_99, z_100, z_127, z_128, z_200, z_256, z_300, z_400, z_500, z_600, z_601, z_602, z_603, z_604, z_605, z_606, z_862, z_990, z_1000, z_1090, z_1390, z_1393, z_1394, z_1395, z_1396, z_1397, z_1398, z_1399, z_1400, z_1401, z_1402, z_1403, z_1404, z_1405, z_1705, z_1805, z_7220, em, e9, t0]
  unfold f11_together_j112
  by_cases hwin : uS (est D A) ((p ++ q).take (jn0 Z most k (p ++ q))) < est D A k
  · rw [hj, hj1, if_pos hwin, if_pos rfl]
    obtain ⟨y1, a1, a2, a3, a4⟩ := pm_tg1 (g := g) (k := k) (a := min (jn0 Z most k (p ++ q)) p.length) (b := jn0 Z most k (p ++ q) - p.length) (f := 1) hZ (by decide) (by omega) (min (jn0 Z most k (p ++ q)) p.length) 0 NF p x (by omega) (by show _ < 8000; omega) (by omega) hok hR
    rw [if_neg (by decide)] at a2 a4
    obtain ⟨y2, b1, b2, b3, b4⟩ := pm_tg2 (g := g) (k := k) (a := min (jn0 Z most k (p ++ q)) p.length) (b := jn0 Z most k (p ++ q) - p.length) (f := 1) hZ (by decide) (by omega) (jn0 Z most k (p ++ q) - p.length) 0 NF q y1 (by omega) (by show _ < 8000; omega) (by omega) a4 a2
    rw [if_neg (by decide)] at b2 b4
    have hdr : p.drop (min (jn0 Z most k (p ++ q)) p.length) = p.drop (jn0 Z most k (p ++ q)) := by
      by_cases h : jn0 Z most k (p ++ q) ≤ p.length
      · rw [Nat.min_eq_left h]
      · rw [Nat.min_eq_right (by omega), List.drop_eq_nil_of_le (Nat.le_refl _), List.drop_eq_nil_of_le (by omega)]
    rw [hdr] at b2 b4
    have hk1 : ∀ r, r < 3 → k ∉ L3 w (p.drop (jn0 Z most k (p ++ q))) (q.drop (jn0 Z most k (p ++ q) - p.length)) r := lt3 (fun h => hkn 0 (by decide) h) (fun h => hkn 1 (by decide) (List.mem_of_mem_drop h)) (fun h => hkn 2 (by decide) (List.mem_of_mem_drop h))
    obtain ⟨y3, d1, d2, d3⟩ := pm_app (g := g) (r := 1) (k := k) (x := upd y2 1399 (y2 1399 + nI (min (jn0 Z most k (p ++ q)) p.length + (jn0 Z most k (p ++ q) - p.length)))) (by decide) b4 (b2.fr b4 (fun j h1 h2 => by rw [ud_n (by omega)])) (b4.lt (r := 1) (by decide) hk (hk1 1 (by decide)))
    rw [L3_a1] at d2
    unfold f11_together_j164 at a1
    unfold f11_together_j200 at b1
    simp (disch := omega) only [rd_n, ck_n, wr_n, cl_n, st_e, b2_e, bd_e, ltp, lep, eqp, m1p, m1l, m1e, m1a, nI_add, pk_sub, pk_mul, dvp, nzp, up_s, up_x, up_01, if_true, if_false, Nat.not_lt_zero, Nat.zero_add, z_0, z_1, z_2, z_3, z_4, z_5, z_10, z_11, z_15, z_20, z_30, z_63, z_64, z_99, z_100, z_127, z_128, z_200, z_256, z_300, z_400, z_500, z_600, z_601, z_602, z_603, z_604, z_605, z_606, z_862, z_990, z_1000, z_1090, z_1390, z_1393, z_1394, z_1395, z_1396, z_1397, z_1398, z_1399, z_1400, z_1401, z_1402, z_1403, z_1404, z_1405, z_1705, z_1805, z_7220, hek, if_neg (show ¬ est D A k ≤ uS (est D A) ((p ++ q).take (jn0 Z most k (p ++ q))) by omega), a1]
    rw [b1]
    simp (disch := omega) only [rd_n, ck_n, wr_n, cl_n, st_e, b2_e, bd_e, ltp, lep, eqp, m1p, m1l, m1e, m1a, nI_add, pk_sub, pk_mul, dvp, nzp, up_s, up_x, up_01, if_true, if_false, Nat.not_lt_zero, Nat.zero_add, z_0, z_1, z_2, z_3, z_4, z_5, z_10, z_11, z_15, z_20, z_30, z_63, z_64, z_99, z_100, z_127, z_128, z_200, z_256, z_300, z_400, z_500, z_600, z_601, z_602, z_603, z_604, z_605, z_606, z_862, z_990, z_1000, z_1090, z_1390, z_1393, z_1394, z_1395, z_1396, z_1397, z_1398, z_1399, z_1400, z_1401, z_1402, z_1403, z_1404, z_1405, z_1705, z_1805, z_7220, if_neg (show ¬ 1 = 0 by decide), d1]
    refine ⟨y3, rfl, d2, ((a3.t b3).o.t of_u).t d3.o, ?_⟩
    rw [d3 _ (by omega), ud_s, b3 _ (by omega), a3 _ (by omega)]
    congr 2
    omega
  · rw [hj, hj1, if_neg hwin, if_neg (fun e => hn0 e.symm)]
    obtain ⟨y1, a1, a2, a3, a4⟩ := pm_tg1 (g := g) (k := k) (a := min (jn0 Z most k (p ++ q)) p.length) (b := jn0 Z most k (p ++ q) - p.length) (f := 0) hZ (by decide) (by omega) (min (jn0 Z most k (p ++ q)) p.length) 0 NF p x (by omega) (by show _ < 8000; omega) (by omega) hok hR
    rw [if_pos rfl] at a2 a4
    obtain ⟨y2, b1, b2, b3, b4⟩ := pm_tg2 (g := g) (k := k) (a := min (jn0 Z most k (p ++ q)) p.length) (b := jn0 Z most k (p ++ q) - p.length) (f := 0) hZ (by decide) (by omega) (jn0 Z most k (p ++ q) - p.length) 0 NF q y1 (by omega) (by show _ < 8000; omega) (by omega) a4 a2
    rw [if_pos rfl] at b2 b4
    unfold f11_together_j164 at a1
    unfold f11_together_j200 at b1
    simp (disch := omega) only [rd_n, ck_n, wr_n, cl_n, st_e, b2_e, bd_e, ltp, lep, eqp, m1p, m1l, m1e, m1a, nI_add, pk_sub, pk_mul, dvp, nzp, up_s, up_x, up_01, if_true, if_false, Nat.not_lt_zero, Nat.zero_add, z_0, z_1, z_2, z_3, z_4, z_5, z_10, z_11, z_15, z_20, z_30, z_63, z_64, z_99, z_100, z_127, z_128, z_200, z_256, z_300, z_400, z_500, z_600, z_601, z_602, z_603, z_604, z_605, z_606, z_862, z_990, z_1000, z_1090, z_1390, z_1393, z_1394, z_1395, z_1396, z_1397, z_1398, z_1399, z_1400, z_1401, z_1402, z_1403, z_1404, z_1405, z_1705, z_1805, z_7220, hek, if_pos (show est D A k ≤ uS (est D A) ((p ++ q).take (jn0 Z most k (p ++ q))) by omega), a1]
    rw [b1]
    simp (disch := omega) only [rd_n, ck_n, wr_n, cl_n, st_e, b2_e, bd_e, ltp, lep, eqp, m1p, m1l, m1e, m1a, nI_add, pk_sub, pk_mul, dvp, nzp, up_s, up_x, up_01, if_true, if_false, Nat.not_lt_zero, Nat.zero_add, z_0, z_1, z_2, z_3, z_4, z_5, z_10, z_11, z_15, z_20, z_30, z_63, z_64, z_99, z_100, z_127, z_128, z_200, z_256, z_300, z_400, z_500, z_600, z_601, z_602, z_603, z_604, z_605, z_606, z_862, z_990, z_1000, z_1090, z_1390, z_1393, z_1394, z_1395, z_1396, z_1397, z_1398, z_1399, z_1400, z_1401, z_1402, z_1403, z_1404, z_1405, z_1705, z_1805, z_7220]
    refine ⟨_, rfl, b2.fr b4 (fun j h1 h2 => by rw [ud_n (by omega)]), (a3.t b3).o.t of_u, ?_⟩
    rw [ud_s, b3 _ (by omega), a3 _ (by omega)]
