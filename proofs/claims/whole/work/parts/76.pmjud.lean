/-! the reference: who comes in -/
/-- what a candidate's coming leaves as it was -/
def OF (x y : Nat → Int32) : Prop := ∀ j, (j < 1090 ∨ (1393 ≤ j ∧ j ≠ 1399)) → y j = x j
theorem QF.o {x y : Nat → Int32} (h : QF x y) : OF x y := fun j hj => h j (by omega)
theorem OF.t {x y z : Nat → Int32} (h1 : OF x y) (h2 : OF y z) : OF x z := fun j hj => (h2 j hj).trans (h1 j hj)
theorem of_u {x : Nat → Int32} {v : Int32} : OF x (upd x 1399 v) := fun j hj => by rw [ud_n (by omega)]
theorem RQ.fr {L : Nat → List Nat} {Z : Nat → Nat} {x y : Nat → Int32} (h : RQ L Z x) (hL : okL 3 L) (e : ∀ j, 990 ≤ j → j < 1393 → y j = x j) : RQ L Z y :=
  ⟨fun r hr => by rw [e _ (by omega) (by omega)]; exact h.1 r hr, fun r i hr hi => by have := hL.len hr; rw [e _ (by omega) (by omega)]; exact h.2.1 r i hr hi, fun k hk => by rw [e _ (by omega) (by omega)]; exact h.2.2 k hk⟩
theorem RN.fr {A : AK} {x y : Nat → Int32} (h : RN A x) (e : ∀ j, (j < 603 ∨ (606 ≤ j ∧ j < 990) ∨ j = 1395 ∨ j = 1396) → y j = x j) : RN A y := by
  obtain ⟨c1, c2, c3, c4, c5, c6, c7, c8, c9⟩ := h
  refine ⟨fun r q hr hq => ?_, fun w q hw hq => ?_, ?_, ?_, ?_, fun r c hr hc => ?_, fun b hb => ?_, ?_, ?_⟩
  · rw [e _ (by omega)]; exact c1 r q hr hq
  · rw [e _ (by omega)]; exact c2 w q hw hq
  · rw [e _ (by omega)]; exact c3
  · rw [e _ (by omega)]; exact c4
  · rw [e _ (by omega)]; exact c5
  · rw [e _ (by omega)]; exact c6 r c hr hc
  · rw [e _ (by omega)]; exact c7 b hb
  · rw [e _ (by omega)]; exact c8
  · rw [e _ (by omega)]; exact c9
theorem OF.n {A : AK} {x y : Nat → Int32} (h : OF x y) (hR : RN A x) : RN A y := hR.fr (fun j hj => h j (by omega))
theorem need_0 {Z : Nat → Nat} {v : List Nat} : need Z 0 v = 0 := by
  cases v with
  | nil => rfl
  | cons k v => rfl
theorem jd_0 {Z e : Nat → Nat} {mode most c : Nat} {p q : List Nat} (h0 : ¬ most < Z c) (h : uS Z (p ++ q) + Z c ≤ most) : jd Z e mode most c p q = (p ++ [c], q, 0) := by
  have hn : jn0 Z most c (p ++ q) = 0 := by
    unfold jn0
    rw [show uS Z (p ++ q) + Z c - most = 0 by omega, need_0]
  have hm : jn1 Z e mode most c (p ++ q) = 0 := by
    have := jn1_le (Z := Z) (e := e) (mode := mode) (most := most) (c := c) (v := p ++ q)
    omega
  unfold jd
  rw [if_neg h0, hm, hn, if_pos rfl, List.drop_zero, Nat.zero_sub, List.drop_zero]
theorem jn0_s {Z : Nat → Nat} {most c k : Nat} {v : List Nat} (h : most < uS Z (k :: v) + Z c) : jn0 Z most c (k :: v) = jn0 Z most c v + 1 := by
  have e : uS Z (k :: v) = Z k + uS Z v := rfl
  show (if uS Z (k :: v) + Z c - most = 0 then 0 else need Z (uS Z (k :: v) + Z c - most - Z k) v + 1) = need Z (uS Z v + Z c - most) v + 1
  rw [if_neg (by omega), show uS Z (k :: v) + Z c - most - Z k = uS Z v + Z c - most by omega]
theorem jn1_s {Z e : Nat → Nat} {mode most c k : Nat} {v : List Nat} (hmo : mode ≤ 2) (hm : mode ≠ 1) (h : most < uS Z (k :: v) + Z c) (hb : mode = 0 → e k < e c) : jn1 Z e mode most c (k :: v) = jn1 Z e mode most c v + 1 := by
  unfold jn1
  rw [jn0_s h]
  by_cases h2 : mode = 2
  · rw [if_pos h2, if_pos h2]
  · have h0 : mode = 0 := by omega
    rw [if_neg h2, if_pos h0, if_neg h2, if_pos h0]
    show (if e c ≤ e k then 0 else beat e (e c) (jn0 Z most c v) v + 1) = _
    have := hb h0
    rw [if_neg (by omega)]
theorem jd_s {Z e : Nat → Nat} {mode most c k : Nat} {p q p2 q2 : List Nat} (hc : (p = k :: p2 ∧ q = q2) ∨ (p = [] ∧ p2 = [] ∧ q = k :: q2)) (h0 : ¬ most < Z c) (hmo : mode ≤ 2) (hm : mode ≠ 1) (h : most < uS Z (p ++ q) + Z c) (hb : mode = 0 → e k < e c) : jd Z e mode most c p q = ((jd Z e mode most c p2 q2).1, (jd Z e mode most c p2 q2).2.1, (jd Z e mode most c p2 q2).2.2 + 1) := by
  have hv : p ++ q = k :: (p2 ++ q2) := by
    rcases hc with ⟨rfl, rfl⟩ | ⟨rfl, rfl, rfl⟩ <;> rfl
  rw [hv] at h
  have hp : ∀ n, p.drop (n + 1) = p2.drop n := by
    intro n
    rcases hc with ⟨rfl, rfl⟩ | ⟨rfl, rfl, rfl⟩
    · rfl
    · simp
  have hq : ∀ n, q.drop (n + 1 - p.length) = q2.drop (n - p2.length) := by
    intro n
    rcases hc with ⟨rfl, rfl⟩ | ⟨rfl, rfl, rfl⟩
    · rw [List.length_cons, Nat.add_sub_add_right]
    · simp
  unfold jd
  rw [hv, jn0_s h, jn1_s hmo hm h hb, if_neg h0, if_neg h0]
  by_cases he : jn1 Z e mode most c (p2 ++ q2) = jn0 Z most c (p2 ++ q2)
  · rw [if_pos (by omega), if_pos he, hp, hq]
  · rw [if_neg (by omega), if_neg he, if_neg hm, if_neg hm, hp, hq]
theorem jd_1 {Z e : Nat → Nat} {most c k : Nat} {p q v : List Nat} (hv : p ++ q = k :: v) (h0 : ¬ most < Z c) (h : most < uS Z (p ++ q) + Z c) (hb : e c ≤ e k) : jd Z e 0 most c p q = (p, q, 1) := by
  have h1 : jn1 Z e 0 most c (p ++ q) = 0 := by
    unfold jn1
    rw [if_neg (by decide), if_pos rfl, hv]
    rw [hv] at h
    rw [jn0_s h]
    exact if_pos hb
  have h2 : jn0 Z most c (p ++ q) ≠ 0 := by
    rw [hv] at h ⊢
    rw [jn0_s h]
    omega
  unfold jd
  rw [if_neg h0, h1, if_neg (fun e => h2 e.symm), if_neg (by decide), List.drop_zero, Nat.zero_sub, List.drop_zero]
theorem pm_main {Z : Nat → Nat} {g : Sg} {w p q : List Nat} (hok : okL 3 (L3 w p q)) (hR : RQ (L3 w p q) Z (g 1)) : f11_inMain g = some (nI (uS Z (p ++ q))) := by
  have e1 : f11_units g (nI 1) = some (nI (uS Z p)) := pm_units (r := 1) (by decide) hok hR
  have e2 : f11_units g (nI 2) = some (nI (uS Z q)) := pm_units (r := 2) (by decide) hok hR
  unfold f11_inMain
  simp (disch := omega) only [rd_n, ck_n, wr_n, cl_n, st_e, b2_e, bd_e, ltp, lep, eqp, m1p, m1l, m1e, m1a, nI_add, pk_sub, pk_mul, dvp, nzp, up_s, up_x, up_01, if_true, if_false, Nat.not_lt_zero, Nat.zero_add, z_0, z_1, z_2, z_3, z_4, z_5, z_10, z_11, z_15, z_20, z_30, z_63, z_64, z_99, z_100, z_127, z_128, z_200, z_256, z_300, z_400, z_500, z_600, z_601, z_602, z_603, z_604, z_605, z_606, z_862, z_990, z_1000, z_1090, z_1390, z_1393, z_1394, z_1395, z_1396, z_1397, z_1398, z_1399, z_1400, z_1401, z_1402, z_1403, z_1404, z_1405, z_1705, z_1805, z_7220, e1, e2]
  rw [uS_app]
theorem pm_tk1 {Z : Nat → Nat} {g : Sg} {x : Nat → Int32} {w p q : List Nat} {k : Nat} (hok : okL 3 (L3 w (k :: p) q)) (hR : RQ (L3 w (k :: p) q) Z x) : ∃ y, f11_take (nI 1) (nI 0) (va_up g 1 x) = some (nI k, va_up g 1 y) ∧ RQ (L3 w p q) Z y ∧ QF x y ∧ okL 3 (L3 w p q) := by
  obtain ⟨y1, a1, a2, a3⟩ := pm_take (g := g) (r := 1) (i := 0) (by decide) hok hR (by simp [L3])
  rw [L3_e1] at a2
  exact ⟨y1, a1, a2, a3, by rw [← L3_d1 hok]; exact ok_out hok k⟩
theorem pm_tk2 {Z : Nat → Nat} {g : Sg} {x : Nat → Int32} {w p q : List Nat} {k : Nat} (hok : okL 3 (L3 w p (k :: q))) (hR : RQ (L3 w p (k :: q)) Z x) : ∃ y, f11_take (nI 2) (nI 0) (va_up g 1 x) = some (nI k, va_up g 1 y) ∧ RQ (L3 w p q) Z y ∧ QF x y ∧ okL 3 (L3 w p q) := by
  obtain ⟨y1, a1, a2, a3⟩ := pm_take (g := g) (r := 2) (i := 0) (by decide) hok hR (by simp [L3])
  rw [L3_e2] at a2
  exact ⟨y1, a1, a2, a3, by rw [← L3_d2 hok]; exact ok_out hok k⟩
theorem pm_tk0 {Z : Nat → Nat} {g : Sg} {x : Nat → Int32} {w p q : List Nat} {k : Nat} (hok : okL 3 (L3 (k :: w) p q)) (hR : RQ (L3 (k :: w) p q) Z x) : ∃ y, f11_take (nI 0) (nI 0) (va_up g 1 x) = some (nI k, va_up g 1 y) ∧ RQ (L3 w p q) Z y ∧ QF x y ∧ okL 3 (L3 w p q) := by
  obtain ⟨y1, a1, a2, a3⟩ := pm_take (g := g) (r := 0) (i := 0) (by decide) hok hR (by simp [L3])
  rw [L3_e0] at a2
  exact ⟨y1, a1, a2, a3, by rw [← L3_d0 hok]; exact ok_out hok k⟩
theorem pm_candL {D : Nat} {A : AK} {Z : Nat → Nat} {g : Sg} {w : List Nat} {mode most k : Nat} (hA : okK D A) (h0 : g 0 0 = nI D) (hZ : ∀ k, k < 100 → 1 ≤ Z k ∧ Z k ≤ 20) (hmo : mode ≤ 2) (hmost : most < 1000) (hk : k < 100) (hzm : Z k ≤ most) : ∀ (m : Nat) (p q : List Nat) (x : Nat → Int32) (n : Nat), (p ++ q).length = m → m < n → okL 3 (L3 w p q) → RQ (L3 w p q) Z x → RN A x → x 603 = nI mode → (∀ r, r < 3 → k ∉ L3 w p q r) → (mode = 1 → uS Z (p ++ q) + Z k ≤ most) → ∃ y, f11_candidate_l72 n (nI k) (nI most) (nI (Z k)) (va_up g 1 x) = some (va_up g 1 y) ∧ RQ (L3 w (jd Z (est D A) mode most k p q).1 (jd Z (est D A) mode most k p q).2.1) Z y ∧ OF x y ∧ y 1399 = x 1399 + nI (jd Z (est D A) mode most k p q).2.2 := by
  intro m
  induction m with
  | zero =>
    intro p q x n h1 h2 hok hR hN hm hkn h1m
    match n, h2 with
    | n + 1, _ =>
      have hv : p ++ q = [] := List.eq_nil_of_length_eq_zero h1
      have hus : uS Z (p ++ q) = 0 := by rw [hv]; rfl
      rw [jd_0 (by omega) (by omega)]
      obtain ⟨y, b1, b2, b3⟩ := pm_app (g := g) (r := 1) (k := k) (by decide) hok hR (hok.lt (r := 1) (by decide) hk (hkn 1 (by decide)))
      rw [L3_a1] at b2
      show ∃ y, f11_candidate_b72 (f11_candidate_l72 n) (nI k) (nI most) (nI (Z k)) (va_up g 1 x) = some (va_up g 1 y) ∧ _
      unfold f11_candidate_b72 f11_candidate_j156
      have em := pm_main (g := va_up g 1 x) hok hR
      simp (disch := omega) only [rd_n, ck_n, wr_n, cl_n, st_e, b2_e, bd_e, ltp, lep, eqp, m1p, m1l, m1e, m1a, nI_add, pk_sub, pk_mul, dvp, nzp, up_s, up_x, up_01, if_true, if_false, Nat.not_lt_zero, Nat.zero_add, z_0, z_1, z_2, z_3, z_4, z_5, z_10, z_11, z_15, z_20, z_30, z_63, z_64, z_99, z_100, z_127, z_128, z_200, z_256, z_300, z_400, z_500, z_600, z_601, z_602, z_603, z_604, z_605, z_606, z_862, z_990, z_1000, z_1090, z_1390, z_1393, z_1394, z_1395, z_1396, z_1397, z_1398, z_1399, z_1400, z_1401, z_1402, z_1403, z_1404, z_1405, z_1705, z_1805, z_7220, em, hus, if_pos hzm, b1]
      exact ⟨y, rfl, b2, b3.o, by rw [b3 _ (by omega)]; exact (Int32.add_zero _).symm⟩
  | succ m ih =>
    intro p q x n h1 h2 hok hR hN hm hkn h1m
    match n, h2 with
    | n + 1, h2 =>
      have hus := v_us hok hZ
      have hzk := hZ k hk
      have em := pm_main (g := va_up g 1 x) hok hR
      show ∃ y, f11_candidate_b72 (f11_candidate_l72 n) (nI k) (nI most) (nI (Z k)) (va_up g 1 x) = some (va_up g 1 y) ∧ _
      unfold f11_candidate_b72 f11_candidate_j156 f11_candidate_j144
      by_cases hle : uS Z (p ++ q) + Z k ≤ most
      · rw [jd_0 (by omega) hle]
        obtain ⟨y, b1, b2, b3⟩ := pm_app (g := g) (r := 1) (k := k) (by decide) hok hR (hok.lt (r := 1) (by decide) hk (hkn 1 (by decide)))
        rw [L3_a1] at b2
        simp (disch := omega) only [rd_n, ck_n, wr_n, cl_n, st_e, b2_e, bd_e, ltp, lep, eqp, m1p, m1l, m1e, m1a, nI_add, pk_sub, pk_mul, dvp, nzp, up_s, up_x, up_01, if_true, if_false, Nat.not_lt_zero, Nat.zero_add, z_0, z_1, z_2, z_3, z_4, z_5, z_10, z_11, z_15, z_20, z_30, z_63, z_64, z_99, z_100, z_127, z_128, z_200, z_256, z_300, z_400, z_500, z_600, z_601, z_602, z_603, z_604, z_605, z_606, z_862, z_990, z_1000, z_1090, z_1390, z_1393, z_1394, z_1395, z_1396, z_1397, z_1398, z_1399, z_1400, z_1401, z_1402, z_1403, z_1404, z_1405, z_1705, z_1805, z_7220, em, if_pos hle, b1]
        exact ⟨y, rfl, b2, b3.o, by rw [b3 _ (by omega)]; exact (Int32.add_zero _).symm⟩
      · have hm1 : mode ≠ 1 := fun e => hle (h1m e)
        have hx2R : RQ (L3 w p q) Z (upd x 1399 (x 1399 + nI 1)) := hR.fr hok (fun j h1 h2 => by rw [ud_n (by omega)])
        have hx2N : RN A (upd x 1399 (x 1399 + nI 1)) := (of_u (x := x)).n hN
        have hek := pm_est (g := va_up g 1 (upd x 1399 (x 1399 + nI 1))) hA h0 hx2N hk
        have hbk := est_le (D := D) (A := A) (k := k)
        match p, q, hok, hR, hx2R, em, hkn, h1, h1m, hle, hus with
        | kk :: p, q, hok, hR, hx2R, em, hkn, h1, h1m, hle, hus =>
          have hkk := (ok_h1 hok).1
          have hev := pm_est (g := va_up g 1 (upd x 1399 (x 1399 + nI 1))) hA h0 hx2N hkk
          have hbv := est_le (D := D) (A := A) (k := kk)
          have el : f11_length (va_up g 1 x) (nI 1) = some (nI (p.length + 1)) := pm_len (L := L3 w (kk :: p) q) (r := 1) (by decide) hR
          have hpl : p.length + 1 ≤ 100 := hok.len (r := 1) (by decide)
          have ek : f11_keyAt (va_up g 1 x) (nI 1) (nI 0) = some (nI kk) := pm_key (r := 1) (by decide) hR (hok.len (r := 1) (by decide)) (by simp [L3])
          obtain ⟨y1, a1, a2, a3, a4⟩ := pm_tk1 (g := g) hok hx2R
          by_cases hb : mode = 0 ∧ est D A k ≤ est D A kk
          · obtain ⟨hb0, hb1⟩ := hb
            subst hb0
            rw [jd_1 (v := p ++ q) rfl (by omega) (by omega) hb1]
            simp (disch := omega) only [rd_n, ck_n, wr_n, cl_n, st_e, b2_e, bd_e, ltp, lep, eqp, m1p, m1l, m1e, m1a, nI_add, pk_sub, pk_mul, dvp, nzp, up_s, up_x, up_01, if_true, if_false, Nat.not_lt_zero, Nat.zero_add, z_0, z_1, z_2, z_3, z_4, z_5, z_10, z_11, z_15, z_20, z_30, z_63, z_64, z_99, z_100, z_127, z_128, z_200, z_256, z_300, z_400, z_500, z_600, z_601, z_602, z_603, z_604, z_605, z_606, z_862, z_990, z_1000, z_1090, z_1390, z_1393, z_1394, z_1395, z_1396, z_1397, z_1398, z_1399, z_1400, z_1401, z_1402, z_1403, z_1404, z_1405, z_1705, z_1805, z_7220, em, if_neg hle, el, if_neg (show ¬ p.length + 1 ≤ 0 by omega), ek, ud_n, hm, hek, hev, if_neg (show ¬ est D A kk < est D A k by omega)]
            exact ⟨_, rfl, hx2R, of_u, by rw [ud_s]⟩
          · rw [jd_s (k := kk) (p2 := p) (q2 := q) (Or.inl ⟨rfl, rfl⟩) (by omega) hmo hm1 (by omega) (fun e => by omega)]
            obtain ⟨y, i1, i2, i3, i4⟩ := ih p q y1 n (by simp at h1 ⊢; omega) (by omega) a4 a2 ((of_u.t a3.o).n hN) (by rw [a3 _ (by omega), ud_n (by omega)]; exact hm) (lt3 (fun h => hkn 0 (by decide) h) (fun h => hkn 1 (by decide) (by simp [L3, show k ∈ p from h])) (fun h => hkn 2 (by decide) h)) (fun e => absurd e hm1)
            have hfin : y 1399 = x 1399 + nI ((jd Z (est D A) mode most k p q).2.2 + 1) := by
              rw [i4, a3 _ (by omega), ud_s, oad, Nat.add_comm]
            by_cases hb0 : mode = 0
            · subst hb0
              simp (disch := omega) only [rd_n, ck_n, wr_n, cl_n, st_e, b2_e, bd_e, ltp, lep, eqp, m1p, m1l, m1e, m1a, nI_add, pk_sub, pk_mul, dvp, nzp, up_s, up_x, up_01, if_true, if_false, Nat.not_lt_zero, Nat.zero_add, z_0, z_1, z_2, z_3, z_4, z_5, z_10, z_11, z_15, z_20, z_30, z_63, z_64, z_99, z_100, z_127, z_128, z_200, z_256, z_300, z_400, z_500, z_600, z_601, z_602, z_603, z_604, z_605, z_606, z_862, z_990, z_1000, z_1090, z_1390, z_1393, z_1394, z_1395, z_1396, z_1397, z_1398, z_1399, z_1400, z_1401, z_1402, z_1403, z_1404, z_1405, z_1705, z_1805, z_7220, em, if_neg hle, el, if_neg (show ¬ p.length + 1 ≤ 0 by omega), ek, ud_n, hm, hek, hev, if_pos (show est D A kk < est D A k by omega), a1]
              exact ⟨y, i1, i2, (of_u.t a3.o).t i3, hfin⟩
            · simp (disch := omega) only [rd_n, ck_n, wr_n, cl_n, st_e, b2_e, bd_e, ltp, lep, eqp, m1p, m1l, m1e, m1a, nI_add, pk_sub, pk_mul, dvp, nzp, up_s, up_x, up_01, if_true, if_false, Nat.not_lt_zero, Nat.zero_add, z_0, z_1, z_2, z_3, z_4, z_5, z_10, z_11, z_15, z_20, z_30, z_63, z_64, z_99, z_100, z_127, z_128, z_200, z_256, z_300, z_400, z_500, z_600, z_601, z_602, z_603, z_604, z_605, z_606, z_862, z_990, z_1000, z_1090, z_1390, z_1393, z_1394, z_1395, z_1396, z_1397, z_1398, z_1399, z_1400, z_1401, z_1402, z_1403, z_1404, z_1405, z_1705, z_1805, z_7220, em, if_neg hle, el, if_neg (show ¬ p.length + 1 ≤ 0 by omega), ek, ud_n, hm, if_neg hb0, a1]
              exact ⟨y, i1, i2, (of_u.t a3.o).t i3, hfin⟩
        | [], [], hok, hR, hx2R, em, hkn, h1, h1m, hle, hus => simp at h1
        | [], kk :: q, hok, hR, hx2R, em, hkn, h1, h1m, hle, hus =>
          have hkk := (ok_h2 hok).1
          have hev := pm_est (g := va_up g 1 (upd x 1399 (x 1399 + nI 1))) hA h0 hx2N hkk
          have hbv := est_le (D := D) (A := A) (k := kk)
          have el : f11_length (va_up g 1 x) (nI 1) = some (nI 0) := pm_len (L := L3 w [] (kk :: q)) (r := 1) (by decide) hR
          have ek : f11_keyAt (va_up g 1 x) (nI 2) (nI 0) = some (nI kk) := pm_key (r := 2) (by decide) hR (hok.len (r := 2) (by decide)) (by simp [L3])
          obtain ⟨y1, a1, a2, a3, a4⟩ := pm_tk2 (g := g) hok hx2R
          by_cases hb : mode = 0 ∧ est D A k ≤ est D A kk
          · obtain ⟨hb0, hb1⟩ := hb
            subst hb0
            rw [jd_1 (v := q) rfl (by omega) (by omega) hb1]
            simp (disch := omega) only [rd_n, ck_n, wr_n, cl_n, st_e, b2_e, bd_e, ltp, lep, eqp, m1p, m1l, m1e, m1a, nI_add, pk_sub, pk_mul, dvp, nzp, up_s, up_x, up_01, if_true, if_false, Nat.not_lt_zero, Nat.zero_add, z_0, z_1, z_2, z_3, z_4, z_5, z_10, z_11, z_15, z_20, z_30, z_63, z_64, z_99, z_100, z_127, z_128, z_200, z_256, z_300, z_400, z_500, z_600, z_601, z_602, z_603, z_604, z_605, z_606, z_862, z_990, z_1000, z_1090, z_1390, z_1393, z_1394, z_1395, z_1396, z_1397, z_1398, z_1399, z_1400, z_1401, z_1402, z_1403, z_1404, z_1405, z_1705, z_1805, z_7220, em, if_neg hle, el, Nat.le_refl, ek, ud_n, hm, hek, hev, if_neg (show ¬ est D A kk < est D A k by omega)]
            exact ⟨_, rfl, hx2R, of_u, by rw [ud_s]⟩
          · rw [jd_s (k := kk) (p2 := []) (q2 := q) (Or.inr ⟨rfl, rfl, rfl⟩) (by omega) hmo hm1 (by omega) (fun e => by omega)]
            obtain ⟨y, i1, i2, i3, i4⟩ := ih [] q y1 n (by simp at h1 ⊢; omega) (by omega) a4 a2 ((of_u.t a3.o).n hN) (by rw [a3 _ (by omega), ud_n (by omega)]; exact hm) (lt3 (fun h => hkn 0 (by decide) h) (fun h => hkn 1 (by decide) h) (fun h => hkn 2 (by decide) (by simp [L3, show k ∈ q from h]))) (fun e => absurd e hm1)
            have hfin : y 1399 = x 1399 + nI ((jd Z (est D A) mode most k [] q).2.2 + 1) := by
              rw [i4, a3 _ (by omega), ud_s, oad, Nat.add_comm]
            by_cases hb0 : mode = 0
            · subst hb0
              simp (disch := omega) only [rd_n, ck_n, wr_n, cl_n, st_e, b2_e, bd_e, ltp, lep, eqp, m1p, m1l, m1e, m1a, nI_add, pk_sub, pk_mul, dvp, nzp, up_s, up_x, up_01, if_true, if_false, Nat.not_lt_zero, Nat.zero_add, z_0, z_1, z_2, z_3, z_4, z_5, z_10, z_11, z_15, z_20, z_30, z_63, z_64, z_99, z_100, z_127, z_128, z_200, z_256, z_300, z_400, z_500, z_600, z_601, z_602, z_603, z_604, z_605, z_606, z_862, z_990, z_1000, z_1090, z_1390, z_1393, z_1394, z_1395, z_1396, z_1397, z_1398, z_1399, z_1400, z_1401, z_1402, z_1403, z_1404, z_1405, z_1705, z_1805, z_7220, em, if_neg hle, el, Nat.le_refl, ek, ud_n, hm, hek, hev, if_pos (show est D A kk < est D A k by omega), a1]
              exact ⟨y, i1, i2, (of_u.t a3.o).t i3, hfin⟩
            · simp (disch := omega) only [rd_n, ck_n, wr_n, cl_n, st_e, b2_e, bd_e, ltp, lep, eqp, m1p, m1l, m1e, m1a, nI_add, pk_sub, pk_mul, dvp, nzp, up_s, up_x, up_01, if_true, if_false, Nat.not_lt_zero, Nat.zero_add, z_0, z_1, z_2, z_3, z_4, z_5, z_10, z_11, z_15, z_20, z_30, z_63, z_64, z_99, z_100, z_127, z_128, z_200, z_256, z_300, z_400, z_500, z_600, z_601, z_602, z_603, z_604, z_605, z_606, z_862, z_990, z_1000, z_1090, z_1390, z_1393, z_1394, z_1395, z_1396, z_1397, z_1398, z_1399, z_1400, z_1401, z_1402, z_1403, z_1404, z_1405, z_1705, z_1805, z_7220, em, if_neg hle, el, Nat.le_refl, ek, ud_n, hm, if_neg hb0, a1]
              exact ⟨y, i1, i2, (of_u.t a3.o).t i3, hfin⟩
