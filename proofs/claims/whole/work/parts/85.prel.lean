/-! what the law keeps of class and reference -/
def HS (D C : Nat) (sv : Nat → AS) (M : Me) : Prop := ∀ r, r < 4 → (M 6 0 1 r = 1 ∧ M 7 0 3 r = nI 1 ∧ okS D C (sv r) ∧ RS D C (sv r) (M (r + 1)) ∧ RX D C (sv r) (fun j => M 7 0 2 (1805 * r + j))) ∨ (¬ M 6 0 1 r = 1 ∧ M 7 0 3 r = nI 0)
def HK (K : List Nat) (P : Ob) (g : Sg) : Prop := K.length ≤ 30 ∧ P 0 0 4 = nI K.length ∧ (∀ i, i < K.length → P 0 4 i = nI (gt K i)) ∧ g 0 6 = nI K.length ∧ ∀ i, i < K.length → g 4 i = nI (gt K i)
def HP (P : Ob) : Prop := (∀ i, i < 5 → P (i + 1) 0 0 = nI i) ∧ ∀ k, k < 100 → P 7 5 k = nI 1
def RelA (D C : Nat) (s : AS) (sv : Nat → AS) (K : List Nat) (M : Me) : Prop := (4 ≤ C ∧ C ≤ 200) ∧ okS D C s ∧ RS D C s (M 0) ∧ RX D C s (M 7 0 1) ∧ (M 6 0 0 0 = nI D ∧ M 6 0 0 1 = nI C ∧ M 7 0 0 0 = nI D ∧ M 7 0 0 1 = nI C) ∧ HS D C sv M ∧ HK K (M 5) (M 7 0) ∧ HP (M 5)
def Rel (M : Me) : Prop := ∃ D C s sv K, RelA D C s sv K M
theorem HS.fr {D C : Nat} {sv : Nat → AS} {M N : Me} (h : HS D C sv M) (e1 : N 6 0 1 = M 6 0 1) (e2 : ∀ r, r < 4 → N (r + 1) = M (r + 1)) (e3 : N 7 0 2 = M 7 0 2) (e4 : N 7 0 3 = M 7 0 3) : HS D C sv N := by
  intro r hr
  have := h r hr
  rw [e1, e2 r hr, e3, e4]
  exact this
theorem HK.fr {K : List Nat} {P : Ob} {g f : Sg} (h : HK K P g) (e1 : f 0 = g 0) (e2 : f 4 = g 4) : HK K P f := by
  obtain ⟨h1, h2, h3, h4, h5⟩ := h
  exact ⟨h1, h2, h3, by rw [e1]; exact h4, by rw [e2]; exact h5⟩
/-- the state now is another one -/
theorem rel_st {D C : Nat} {s s2 : AS} {sv : Nat → AS} {K : List Nat} {M : Me} {S2 : Ob} {y : Nat → Int32} (h : RelA D C s sv K M) (a : okS D C s2) (b : RS D C s2 S2) (c : RX D C s2 y) : RelA D C s2 sv K (uI (va_up M 0 S2) 7 0 (va_up (M 7 0) 1 y)) := by
  obtain ⟨h1, h2, h3, h4, h5, h6, h7, h8⟩ := h
  have e0 : uI (va_up M 0 S2) 7 0 (va_up (M 7 0) 1 y) 0 = S2 := by rw [uI_ne (by decide), up_s]
  have en : ∀ t, t ≠ 0 → t ≠ 7 → uI (va_up M 0 S2) 7 0 (va_up (M 7 0) 1 y) t = M t := fun t h0 h7 => by rw [uI_ne h7, up_n h0]
  have e7 : uI (va_up M 0 S2) 7 0 (va_up (M 7 0) 1 y) 7 0 = va_up (M 7 0) 1 y := uI_at
  refine ⟨h1, a, ?_, ?_, ?_, ?_, ?_, ?_⟩
  · rw [e0]; exact b
  · rw [e7, up_s]; exact c
  · rw [en 6 (by decide) (by decide), e7, up_01]; exact h5
  · exact h6.fr (by rw [en 6 (by decide) (by decide)]) (fun r hr => en _ (by omega) (by omega)) (by rw [e7, up_n (by decide)]) (by rw [e7, up_n (by decide)])
  · rw [en 5 (by decide) (by decide), e7]; exact h7.fr up_01 (up_n (by decide))
  · rw [en 5 (by decide) (by decide)]; exact h8
theorem m_id {M : Me} : va_up (M 7 0) 1 (M 7 0 1) = M 7 0 := up_id _ _
theorem m_0 {M : Me} {S : Ob} : va_up M 0 S 7 = M 7 := up_n (by decide)
theorem rel_no {M : Me} (h : Rel M) : Rel (uI M 7 0 (M 7 0)) := by rw [uI_id]; exact h
/-! the arguments -/
theorem key_c (a : Int32) : (f10_isKey a = some 0 ∧ f11_isKey a = some 0) ∨ ∃ k, k < 100 ∧ a = nI k ∧ f10_isKey a = some 1 ∧ f11_isKey a = some 1 := by
  unfold f10_isKey f11_isKey f11_in
  rcases pk_ix (n := 100) a (by decide) with h | h | ⟨j, hj, rfl⟩
  · refine Or.inl ⟨if_pos h, ?_⟩
    rw [if_pos h]; rfl
  · have h2 : (99 : Int32) < a := Int32.lt_of_lt_of_le (by decide) h
    refine Or.inl ⟨?_, ?_⟩
    · by_cases h0 : a < 0
      · exact if_pos h0
      · rw [if_neg h0]; exact if_pos h
    · by_cases h0 : a < 0
      · rw [if_pos h0]; rfl
      · rw [if_neg h0, if_pos h2]; rfl
  · refine Or.inr ⟨j, hj, rfl, ?_, ?_⟩
    · simp (disch := omega) only [rd_n, ck_n, wr_n, cl_n, st_e, b2_e, bd_e, ltp, lep, eqp, m1p, m1l, m1e, m1a, nI_add, pk_sub, pk_mul, dvp, nzp, up_s, up_x, up_01, if_true, if_false, Nat.not_lt_zero, Nat.zero_add, z_0, z_1, z_2, z_3, z_4, z_5, z_10, z_11, z_15, z_20, z_30, z_63, z_64, z_99, z_100, z_127, z_128, z_200, z_256, z_300, z_400, z_500, z_600, z_601, z_602, z_603, z_604, z_605, z_606, z_862, z_990, z_1000, z_1090, z_1390, z_1393, z_1394, z_1395, z_1396, z_1397, z_1398, z_1399, z_1400, z_1401, z_1402, z_1403, z_1404, z_1405, z_1705, z_1805, z_7220, if_neg (show ¬ 100 ≤ j by omega)]
    · simp (disch := omega) only [rd_n, ck_n, wr_n, cl_n, st_e, b2_e, bd_e, ltp, lep, eqp, m1p, m1l, m1e, m1a, nI_add, pk_sub, pk_mul, dvp, nzp, up_s, up_x, up_01, if_true, if_false, Nat.not_lt_zero, Nat.zero_add, z_0, z_1, z_2, z_3, z_4, z_5, z_10, z_11, z_15, z_20, z_30, z_63, z_64, z_99, z_100, z_127, z_128, z_200, z_256, z_300, z_400, z_500, z_600, z_601, z_602, z_603, z_604, z_605, z_606, z_862, z_990, z_1000, z_1090, z_1390, z_1393, z_1394, z_1395, z_1396, z_1397, z_1398, z_1399, z_1400, z_1401, z_1402, z_1403, z_1404, z_1405, z_1705, z_1805, z_7220, if_neg (show ¬ 99 < j by omega)]
      rfl
theorem in_c (a : Int32) (n : Nat) (hn : n < 1000) : ((a < 0 ∨ nI n ≤ a) ∧ f11_in a 0 (nI n - 1) = some 0) ∨ ∃ k, k < n ∧ a = nI k ∧ f11_in a 0 (nI n - 1) = some 1 := by
  unfold f11_in
  rcases pk_ix (n := n) a (by omega) with h | h | ⟨j, hj, rfl⟩
  · exact Or.inl ⟨Or.inl h, if_pos h⟩
  · refine Or.inl ⟨Or.inr h, ?_⟩
    have h2 : nI n - 1 < a := by
      by_cases h0 : n = 0
      · subst h0
        exact Int32.lt_of_lt_of_le (by decide) h
      · rw [z_1, pk_sub (by omega)]
        exact Int32.lt_of_lt_of_le (by rw [ltp (by omega) (by omega)]; omega) h
    by_cases h0 : a < 0
    · exact if_pos h0
    · rw [if_neg h0]; exact if_pos h2
  · refine Or.inr ⟨j, hj, rfl, ?_⟩
    simp (disch := omega) only [rd_n, ck_n, wr_n, cl_n, st_e, b2_e, bd_e, ltp, lep, eqp, m1p, m1l, m1e, m1a, nI_add, pk_sub, pk_mul, dvp, nzp, up_s, up_x, up_01, if_true, if_false, Nat.not_lt_zero, Nat.zero_add, z_0, z_1, z_2, z_3, z_4, z_5, z_10, z_11, z_15, z_20, z_30, z_63, z_64, z_99, z_100, z_127, z_128, z_200, z_256, z_300, z_400, z_500, z_600, z_601, z_602, z_603, z_604, z_605, z_606, z_862, z_990, z_1000, z_1090, z_1390, z_1393, z_1394, z_1395, z_1396, z_1397, z_1398, z_1399, z_1400, z_1401, z_1402, z_1403, z_1404, z_1405, z_1705, z_1805, z_7220, if_neg (show ¬ n - 1 < j by omega)]
theorem sim_access : Sim_access Rel := by
  intro M a h
  unfold f10_access f11_access
  rcases key_c a with ⟨e1, e2⟩ | ⟨k, hk, rfl, e1, e2⟩
  · refine ⟨_, M, M 7 0, by rw [e1]; rfl, rfl, by rw [e2]; rfl, rel_no h⟩
  · obtain ⟨D, C, s, sv, K, h⟩ := h
    obtain ⟨v, S2, y, s2, t, a1, a2, a3, a4, a5, _, _, _⟩ := vis h.1.2 h.1.1 h.2.2.2.2.1.2.2.1 h.2.2.2.2.1.2.2.2 hk h.2.1 h.2.2.1 h.2.2.2.1
    rw [m_id] at a2
    refine ⟨v, va_up M 0 S2, va_up (M 7 0) 1 y, ?_, by rw [up_n (by decide)], ?_, D, C, s2, sv, K, rel_st h a3 a4 a5⟩
    · rw [e1]
      simp only [bd_e]
      rw [if_neg (by decide), a1]
      rfl
    · rw [e2]
      simp only [bd_e]
      rw [if_neg (by decide), m_0, a2]
      rfl
theorem sim_add : Sim_add Rel := by
  intro M a h
  unfold f10_add f11_add
  rcases key_c a with ⟨e1, e2⟩ | ⟨k, hk, rfl, e1, e2⟩
  · refine ⟨_, M, M 7 0, by rw [e1]; rfl, rfl, by rw [e2]; rfl, rel_no h⟩
  · obtain ⟨D, C, s, sv, K, h⟩ := h
    obtain ⟨A, ⟨w, p, q⟩, Z, ⟨mode, W, step, per, ch, ca, cb⟩, ⟨o, acc, hits, dir⟩, T⟩ := s
    obtain ⟨k1, k2, k3, k4, k5, k7, k8, k9, k14, ⟨k15, k15b⟩, k16⟩ := h.2.1
    obtain ⟨s1, s2, s3, s4, s5, s6, s7⟩ := h.2.2.1
    obtain ⟨x1, x2, x3, xV⟩ := h.2.2.2.1
    have h0 := h.2.2.2.2.1.2.2.1
    obtain ⟨g7, p1, p2⟩ := pk_put k1 k2 s1 hk
    have okA := ok_add (D := D) (A := A) hk k1 k2
    obtain ⟨y2, c1, c2, c3, c4⟩ := pm_count (g := M 7 0) k1 k2 h0 x1 x2 hk
    rw [m_id] at c1
    refine ⟨nI (est D (addK D A k) k), uI M 0 2 g7, va_up (M 7 0) 1 y2, ?_, by rw [uI_ne (by decide)], ?_, D, C, (addK D A k, (w, p, q), Z, (mode, W, step, per, ch, ca, cb), (o, acc, hits, dir), T), sv, K, rel_st h ⟨okA.1, okA.2, k3, k4, k5, k7, k8, k9, k14, ⟨k15, k15b⟩, k16⟩ ⟨?_, ?_, ?_, ?_, ?_, ?_, ?_⟩ ⟨c2, c3, x3.fr k3 (fun j h1 h2 => c4 j (by omega)), xV.fr k15 (fun j hj => c4 j (by omega)) (by rw [c4 _ (by omega)]; exact xV.2.2.1.2.2.1)⟩⟩
    · rw [e1]
      simp only [bd_e]
      rw [if_neg (by decide), p1]
      simp only [bd_e, st_e]
      rw [uI_at, pk_guess okA.1 p2 hk]
      rfl
    · rw [e2]
      simp only [bd_e]
      rw [if_neg (by decide), uI_ne (by decide), c1]
      simp only [bd_e]
      rw [pm_est okA.1 (by rw [up_01]; exact h0) (by rw [up_s]; exact c2) hk]
      rfl
    · rw [up_s]; exact p2
    · rw [up_n (by decide)]; exact s2
    · rw [up_n (by decide)]; exact s3
    · rw [up_n (by decide)]; exact s4
    · rw [up_n (by decide)]; exact s5
    · rw [up_n (by decide)]; exact s6
    · rw [up_n (by decide)]; exact s7
theorem sim_estimate : Sim_estimate Rel := by
  intro M a h
  unfold f10_estimate f11_estimate
  rcases key_c a with ⟨e1, e2⟩ | ⟨k, hk, rfl, e1, e2⟩
  · exact ⟨_, by rw [e1]; rfl, by rw [e2]; rfl⟩
  · obtain ⟨D, C, s, sv, K, h⟩ := h
    obtain ⟨A, ⟨w, p, q⟩, Z, ⟨mode, W, step, per, ch, ca, cb⟩, ⟨o, acc, hits, dir⟩, T⟩ := s
    refine ⟨nI (est D A k), ?_, ?_⟩
    · rw [e1]
      simp only [bd_e]
      rw [if_neg (by decide), pk_guess h.2.1.1 h.2.2.1.1 hk]
      rfl
    · rw [e2]
      simp only [bd_e]
      rw [if_neg (by decide), pm_est h.2.1.1 h.2.2.2.2.1.2.2.1 h.2.2.2.1.1 hk]
      rfl
