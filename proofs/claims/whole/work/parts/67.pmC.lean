theorem tm_step {D : Nat} {A : AK} {k : Nat} {T T2 : Nat → Int32} (h : ∀ j, j < 100 → ∃ t, T j = nI t ∧ t ≤ kS A 3 ∧ min 15 t ≤ est D A j) (hk : k < 100) (h1 : ∀ j, j ≠ k → T2 j = T j) (h2 : T2 k = T k + nI 1) : ∀ j, j < 100 → ∃ t, T2 j = nI t ∧ t ≤ kS (stepK D (incK A) k) 3 ∧ min 15 t ≤ est D (stepK D (incK A) k) j := by
  intro j hj
  have hS3 : kS (stepK D (incK A) k) 3 = kS A 3 + 1 := by
    unfold stepK
    split <;> rfl
  obtain ⟨t, t1, t2, t3⟩ := h j hj
  by_cases e : j = k
  · subst e
    refine ⟨t + 1, by rw [h2, t1, nI_add], by omega, ?_⟩
    have h1 := est_stepS (D := D) (A := incK A) (k := j)
    rw [est_inc] at h1
    omega
  · refine ⟨t, by rw [h1 j e]; exact t1, by omega, ?_⟩
    have h1 := est_step (D := D) (A := incK A) (k := k) (j := j)
    rw [est_inc] at h1
    omega
theorem rn_bit {A : AK} {x : Nat → Int32} {k : Nat} (h : RN A x) (h0 : kD A 0 k < 128) (h1 : kD A 1 k < 128) : RN (bitK A k) (upd (upd x (862 + kD A 0 k) (nI 1)) (862 + kD A 1 k) (nI 1)) := by
  obtain ⟨c1, c2, c3, c4, c5, c6, c7, c8, c9⟩ := h
  refine ⟨fun r q hr hq => ?_, fun w q hw hq => ?_, ?_, ?_, ?_, fun r c hr hc => ?_, fun b hb => ?_, ?_, ?_⟩
  · rw [ud_n (by omega), ud_n (by omega)]; exact c1 r q hr hq
  · rw [ud_n (by omega), ud_n (by omega)]; exact c2 w q hw hq
  · rw [ud_n (by omega), ud_n (by omega)]; exact c3
  · rw [ud_n (by omega), ud_n (by omega)]; exact c4
  · rw [ud_n (by omega), ud_n (by omega)]; exact c5
  · rw [ud_n (by omega), ud_n (by omega)]; exact c6 r c hr hc
  · show _ = nI (if b = kD A 0 k ∨ b = kD A 1 k then 1 else kB A b)
    by_cases e1 : b = kD A 1 k
    · rw [e1, ud_s, if_pos (Or.inr rfl)]
    · rw [ud_n (by omega)]
      by_cases e0 : b = kD A 0 k
      · rw [e0, ud_s, if_pos (Or.inl rfl)]
      · rw [ud_n (by omega), if_neg (fun h => h.elim e0 e1)]
        exact c7 b hb
  · rw [ud_n (by omega), ud_n (by omega)]; exact c8
  · rw [ud_n (by omega), ud_n (by omega)]; exact c9
theorem pm_grow {D : Nat} {A : AK} {g : Sg} {x : Nat → Int32} (hA : okK D A) (h0 : g 0 0 = nI D) (hR : RN A x) {k : Nat} (hk : k < 100) : ∃ y, f11_count_j89 (nI k) (va_up g 1 x) = f11_count_j164 (va_up g 1 y) ∧ RN (growK D A k) y ∧ (∀ j, (j < 606 ∨ 862 ≤ j) → y j = x j) := by
  have hsm := pm_sm (g := va_up g 1 x) hA (by rw [up_01]; exact h0) (by rw [up_s]; exact hR) hk
  have hmn := mnr_le A k D
  obtain ⟨hD1, hD4, hp, hd, hc, hz, hb1, hs0, hs1, -⟩ := hA
  obtain ⟨c1, c2, c3, c4, c5, c6, c7, c8, c9⟩ := hR
  obtain ⟨y, e1, e2, e3⟩ := pm_growL (least := mnr A k D) g (fun r => kP A r k) hD4 hk hmn hs1 h0 (fun r hr => hp r k hr hk) NF 0 x (by omega) (by show _ < 8000; omega) c4 (fun r hr => c1 r k hr hk) (fun r c hr hc2 => ⟨_, c6 r c hr hc2, hc r c hr hc2⟩)
  refine ⟨y, ?_, ⟨fun r q hr hq => ?_, fun w q hw hq => ?_, ?_, ?_, ?_, fun r c hr hc2 => ?_, fun b hb => ?_, ?_, ?_⟩, e2⟩
  · unfold f11_count_j89
    rw [hsm, bd_e]
    exact e1
  · rw [e2 _ (by omega)]; exact c1 r q hr hq
  · rw [e2 _ (by omega)]; exact c2 w q hw hq
  · rw [e2 _ (by omega)]; exact c3
  · rw [e2 _ (by omega)]; exact c4
  · rw [e2 _ (by omega)]; exact c5
  · rw [e3 r c _ hr hc2 (c6 r c hr hc2) (hc r c hr hc2)]
    congr 1
    show _ = if r < D then grC A k (limK D A k) r c else kC A r c
    unfold grC limK
    by_cases hrD : r < D
    · rw [if_pos hrD]
      have hm := mnr_at A k D r hrD
      by_cases hcp : c = kP A r k
      · subst hcp
        by_cases q : kS A 1 = 1
        · rw [if_pos q]
          by_cases w : kC A r (kP A r k) ≤ mnr A k D ∧ kC A r (kP A r k) < 15
          · rw [if_pos ⟨by omega, hrD, rfl, w.2, Or.inr (by omega)⟩, if_pos ⟨rfl, w⟩]
          · rw [if_neg (by omega), if_neg (fun h => w h.2)]
        · rw [if_neg q]
          have := hc r _ hr hc2
          by_cases w : kC A r (kP A r k) < 15
          · rw [if_pos ⟨by omega, hrD, rfl, w, Or.inl (by omega)⟩, if_pos ⟨rfl, this, w⟩]
          · rw [if_neg (by omega), if_neg (by omega)]
      · rw [if_neg (fun h => hcp h.2.2.1), if_neg (fun h => hcp h.1)]
    · rw [if_neg hrD, if_neg (fun h => hrD h.2.1)]
  · rw [e2 _ (by omega)]; exact c7 b hb
  · rw [e2 _ (by omega)]; exact c8
  · rw [e2 _ (by omega)]; exact c9
theorem pm_count {D : Nat} {A : AK} {g : Sg} {x : Nat → Int32} (hA : okK D A) (h3 : kS A 3 ≤ 1000) (h0 : g 0 0 = nI D) (hR : RN A x) (hT : RT D A x) {k : Nat} (hk : k < 100) : ∃ y, f11_count (nI k) (va_up g 1 x) = some (va_up g 1 y) ∧ RN (addK D A k) y ∧ RT D (addK D A k) y ∧ KF x y := by
  have hd := hA.2.2.2.1
  have hd0 := hd 0 k (by decide) hk
  have hd1 := hd 1 k (by decide) hk
  have hs0 := hA.2.2.2.2.2.2.2.1
  obtain ⟨tk, ht1, ht2, ht3⟩ := hT k hk
  obtain ⟨x2, hx2⟩ : ∃ z, z = upd (upd x 1395 (nI (kS A 3 + 1))) (1705 + k) (nI (tk + 1)) := ⟨_, rfl⟩
  have a2 : ∀ j, j ≠ 1395 → j ≠ 1705 + k → x2 j = x j := fun j h1 h2 => by rw [hx2, ud_n h2, ud_n h1]
  have a3 : x2 1395 = nI (kS A 3 + 1) := by rw [hx2, ud_n (by omega), ud_s]
  have hx2R : RN (incK A) x2 := by
    obtain ⟨c1, c2, c3, c4, c5, c6, c7, c8, c9⟩ := hR
    refine ⟨fun r q hr hq => ?_, fun w q hw hq => ?_, ?_, ?_, ?_, fun r c hr hc => ?_, fun b hb => ?_, a3, ?_⟩
    · rw [a2 _ (by omega) (by omega)]; exact c1 r q hr hq
    · rw [a2 _ (by omega) (by omega)]; exact c2 w q hw hq
    · rw [a2 _ (by omega) (by omega)]; exact c3
    · rw [a2 _ (by omega) (by omega)]; exact c4
    · rw [a2 _ (by omega) (by omega)]; exact c5
    · rw [a2 _ (by omega) (by omega)]; exact c6 r c hr hc
    · rw [a2 _ (by omega) (by omega)]; exact c7 b hb
    · rw [a2 _ (by omega) (by omega)]; exact c9
  have hO := ok_inc hA h3
  have hTs := tm_step (D := D) (A := A) (k := k) (T := fun j => x (1705 + j)) (T2 := fun j => x2 (1705 + j)) hT hk (fun j hj => a2 _ (by omega) (by omega)) (by show x2 (1705 + k) = x (1705 + k) + nI 1; rw [ht1, nI_add, hx2, ud_s])
  have hKF : KF x x2 := fun j hj => a2 j (by omega) (by omega)
  have hst : ∀ y, RN (stepK D (incK A) k) y → (∀ j, (j < 606 ∨ 990 ≤ j) → y j = x2 j) → ∃ z, f11_count_j164 (va_up g 1 y) = some (va_up g 1 z) ∧ RN (addK D A k) z ∧ RT D (addK D A k) z ∧ KF x z := by
    intro y h1 h2
    obtain ⟨z, f1, f2, f3, f4⟩ := pm_j164 (g := g) (ok_step hk hO) h1 (fun j hj => by rw [h2 _ (by omega)]; exact hTs j hj)
    exact ⟨z, f1, f2, f3, fun j hj => by rw [f4 j hj, h2 j (by omega), hKF j hj]⟩
  have hgrow : ¬ (kS (incK A) 0 = 1 ∧ thr (incK A) k = false) → ∃ z, f11_count_j89 (nI k) (va_up g 1 x2) = some (va_up g 1 z) ∧ RN (addK D A k) z ∧ RT D (addK D A k) z ∧ KF x z := by
    intro hn
    obtain ⟨y, e1, e2, e3⟩ := pm_grow (g := g) hO h0 hx2R hk
    rw [e1]
    exact hst y (by rw [show stepK D (incK A) k = growK D (incK A) k from if_neg hn]; exact e2) (fun j hj => e3 j (by omega))
  have hth := pm_thr (g := va_up g 1 x2) hO (by rw [up_s]; exact hx2R) hk
  have e8 : x 600 = nI (kS (incK A) 0) := hR.2.2.1
  have e4 : x (400 + k) = nI (kD A 0 k) := hR.2.1 0 k (by decide) hk
  have e5 : x2 (500 + k) = nI (kD A 1 k) := hx2R.2.1 1 k (by decide) hk
  have hs0' : kS (incK A) 0 ≤ 1 := hs0
  unfold f11_count
  simp (disch := omega) only [rd_n, ck_n, wr_n, cl_n, st_e, b2_e, bd_e, ltp, lep, eqp, m1p, m1l, m1e, m1a, nI_add, pk_sub, pk_mul, dvp, nzp, up_s, up_x, up_01, if_true, if_false, Nat.not_lt_zero, Nat.zero_add, z_0, z_1, z_2, z_3, z_4, z_5, z_10, z_11, z_15, z_20, z_30, z_63, z_64, z_99, z_100, z_127, z_128, z_200, z_256, z_300, z_400, z_500, z_600, z_601, z_602, z_603, z_604, z_605, z_606, z_862, z_990, z_1000, z_1090, z_1390, z_1393, z_1394, z_1395, z_1396, z_1397, z_1398, z_1399, z_1400, z_1401, z_1402, z_1403, z_1404, z_1405, z_1705, z_1805, z_7220, hR.2.2.2.2.2.2.2.1, ud_n, ht1, ← hx2, e8, hth]
  by_cases q0 : kS (incK A) 0 = 1
  · rw [if_pos q0]
    by_cases q1 : thr (incK A) k = true
    · rw [if_neg (by rw [if_pos q1]; decide)]
      exact hgrow (fun h => by rw [q1] at h; exact absurd h.2 (by decide))
    · have q1 : thr (incK A) k = false := by simpa using q1
      rw [if_pos (by rw [q1]; decide)]
      simp (disch := omega) only [rd_n, ck_n, wr_n, cl_n, st_e, b2_e, bd_e, ltp, lep, eqp, m1p, m1l, m1e, m1a, nI_add, pk_sub, pk_mul, dvp, nzp, up_s, up_x, up_01, if_true, if_false, Nat.not_lt_zero, Nat.zero_add, z_0, z_1, z_2, z_3, z_4, z_5, z_10, z_11, z_15, z_20, z_30, z_63, z_64, z_99, z_100, z_127, z_128, z_200, z_256, z_300, z_400, z_500, z_600, z_601, z_602, z_603, z_604, z_605, z_606, z_862, z_990, z_1000, z_1090, z_1390, z_1393, z_1394, z_1395, z_1396, z_1397, z_1398, z_1399, z_1400, z_1401, z_1402, z_1403, z_1404, z_1405, z_1705, z_1805, z_7220, e4, e5, ud_n]
      exact hst _ (by rw [show stepK D (incK A) k = bitK (incK A) k from if_pos ⟨q0, q1⟩]; exact rn_bit hx2R hd0 hd1) (fun j hj => by
        show upd (upd x2 (862 + kD A 0 k) (nI 1)) (862 + kD A 1 k) (nI 1) j = _
        rw [ud_n (by omega), ud_n (by omega)])
  · rw [if_neg q0]
    exact hgrow (fun h => q0 h.1)
