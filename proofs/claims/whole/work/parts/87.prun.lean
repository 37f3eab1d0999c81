/-! run, size, remove -/
theorem rng_c (a : Int32) {lo hi : Nat} (hh : hi < 10000) (hl : lo ≤ hi) : (a < nI lo ∧ f11_in a (nI lo) (nI hi) = some 0) ∨ (¬ a < nI lo ∧ ¬ a ≤ nI hi ∧ f11_in a (nI lo) (nI hi) = some 0) ∨ ∃ c, lo ≤ c ∧ c ≤ hi ∧ a = nI c ∧ f11_in a (nI lo) (nI hi) = some 1 := by
  unfold f11_in
  by_cases c1 : a < nI lo
  · exact Or.inl ⟨c1, if_pos c1⟩
  · by_cases c2 : a ≤ nI hi
    · refine Or.inr (Or.inr ?_)
      rcases pk_ix (n := hi + 1) a (by omega) with q | q | ⟨j, hj, rfl⟩
      · exact absurd (Int32.lt_of_lt_of_le q (show nI 0 ≤ nI lo by rw [lep (by omega) (by omega)]; omega)) c1
      · exact absurd (Int32.le_trans q c2) (by rw [lep (by omega) (by omega)]; omega)
      · refine ⟨j, ?_, by omega, rfl, ?_⟩
        · rw [ltp (by omega) (by omega)] at c1; omega
        · rw [if_neg c1, if_neg (Int32.not_lt.mpr c2)]
    · exact Or.inr (Or.inl ⟨c1, c2, by rw [if_neg c1, if_pos (Int32.not_le.mp c2)]⟩)
theorem run_l {D C key step count : Nat} {M : Me} {g : Sg} {b : Int32} (hC : C ≤ 200) (hC4 : 4 ≤ C) (h0 : g 0 0 = nI D) (h1 : g 0 1 = nI C) (hk : key < 100) (hs : step < 100) (hc : count ≤ 100) :
    ∀ (m i n1 n2 h : Nat) (s : AS) (S : Ob) (x : Nat → Int32), count - i = m → i ≤ count → m < n1 → m < n2 → h ≤ i → okS D C s → RS D C s S → RX D C s x → x 1398 = b + nI h →
    ∃ r S2 y s2, f10_run_l37 n1 (nI step) (nI count) (nI h) (nI ((key + i * step) % 100)) (nI i) (va_up M 0 S) = some (r, va_up M 0 S2) ∧ f11_run_l43 n2 (nI key) (nI step) (nI count) b (nI i) (va_up g 1 x) = some (r, va_up g 1 y) ∧ okS D C s2 ∧ RS D C s2 S2 ∧ RX D C s2 y := by
  intro m
  induction m with
  | zero =>
    intro i n1 n2 h s S x e hi hn1 hn2 hh a1 a2 a3 a4
    obtain ⟨n1, rfl⟩ : ∃ n, n1 = n + 1 := ⟨n1 - 1, by omega⟩
    obtain ⟨n2, rfl⟩ : ∃ n, n2 = n + 1 := ⟨n2 - 1, by omega⟩
    refine ⟨nI h, S, x, s, ?_, ?_, a1, a2, a3⟩
    · show f10_run_b37 (f10_run_l37 n1) _ _ _ _ _ _ = _
      unfold f10_run_b37
      simp (disch := omega) only [rd_n, ck_n, wr_n, cl_n, st_e, b2_e, bd_e, ltp, lep, eqp, m1p, m1l, m1e, m1a, nI_add, pk_sub, pk_mul, dvp, nzp, up_s, up_x, up_01, if_true, if_false, Nat.not_lt_zero, Nat.zero_add, z_0, z_1, z_2, z_3, z_4, z_5, z_10, z_11, z_15, z_20, z_30, z_63, z_64, z_99, z_100, z_127, z_128, z_200, z_256, z_300, z_400, z_500, z_600, z_601, z_602, z_603, z_604, z_605, z_606, z_862, z_990, z_1000, z_1090, z_1390, z_1393, z_1394, z_1395, z_1396, z_1397, z_1398, z_1399, z_1400, z_1401, z_1402, z_1403, z_1404, z_1405, z_1705, z_1805, z_7220, if_pos (show count ≤ i by omega)]
    · show f11_run_b43 (f11_run_l43 n2) _ _ _ _ _ _ = _
      unfold f11_run_b43 f11_run_j70
      simp (disch := omega) only [rd_n, ck_n, wr_n, cl_n, st_e, b2_e, bd_e, ltp, lep, eqp, m1p, m1l, m1e, m1a, nI_add, pk_sub, pk_mul, dvp, nzp, up_s, up_x, up_01, if_true, if_false, Nat.not_lt_zero, Nat.zero_add, z_0, z_1, z_2, z_3, z_4, z_5, z_10, z_11, z_15, z_20, z_30, z_63, z_64, z_99, z_100, z_127, z_128, z_200, z_256, z_300, z_400, z_500, z_600, z_601, z_602, z_603, z_604, z_605, z_606, z_862, z_990, z_1000, z_1090, z_1390, z_1393, z_1394, z_1395, z_1396, z_1397, z_1398, z_1399, z_1400, z_1401, z_1402, z_1403, z_1404, z_1405, z_1705, z_1805, z_7220, if_pos (show count ≤ i by omega), a4]
      rw [Int32.add_comm, Int32.add_sub_cancel]
  | succ m ih =>
    intro i n1 n2 h s S x e hi hn1 hn2 hh a1 a2 a3 a4
    obtain ⟨n1, rfl⟩ : ∃ n, n1 = n + 1 := ⟨n1 - 1, by omega⟩
    obtain ⟨n2, rfl⟩ : ∃ n, n2 = n + 1 := ⟨n2 - 1, by omega⟩
    have hlt : (key + i * step) % 100 < 100 := Nat.mod_lt _ (by decide)
    have hmul : i * step ≤ 100 * 100 := Nat.mul_le_mul (by omega) (by omega)
    obtain ⟨v, S2, y, s2, t, b1, b2, b3, b4, b5, b6, b7, b8⟩ := vis (g := g) hC hC4 h0 h1 hlt a1 a2 a3
    obtain ⟨r, S3, z, s3, c1, c2, c3, c4, c5⟩ := ih (i + 1) n1 n2 (h + t) s2 S2 y (by omega) (by omega) (by omega) (by omega) (by omega) b3 b4 b5 (by rw [b6, a4, ← nI_add, Int32.add_assoc])
    have emod : ((key + i * step) % 100 + step) % 100 = (key + (i + 1) * step) % 100 := by
      rw [Nat.add_mul, Nat.one_mul]; omega
    have enext : nI ((key + i * step) % 100) + nI step - (nI ((key + i * step) % 100) + nI step) / nI 100 * nI 100 = nI ((key + (i + 1) * step) % 100) := by
      rw [nI_add, rem_n (by omega) (by omega) (by omega), emod]
    refine ⟨r, S3, z, s3, ?_, ?_, c3, c4, c5⟩
    · show f10_run_b37 (f10_run_l37 n1) _ _ _ _ _ _ = _
      unfold f10_run_b37 f10_run_j59
      simp (disch := omega) only [lep, if_neg (show ¬ count ≤ i by omega), up_s, b1, b2_e, st_e, up_x, z_2, z_100, z_1, nI_add]
      rw [nI_add] at enext
      rw [enext]
      by_cases ht : t = 0
      · rw [if_pos (b8.mpr ht)]
        subst ht
        exact c1
      · rw [if_neg (fun hv => ht (b8.mp hv))]
        have : t = 1 := by omega
        subst this
        exact c1
    · show f11_run_b43 (f11_run_l43 n2) _ _ _ _ _ _ = _
      unfold f11_run_b43
      have em : nI key + nI i * nI step - (nI key + nI i * nI step) / nI 100 * nI 100 = nI ((key + i * step) % 100) := by
        rw [pk_mul, nI_add, rem_n (by omega) (by omega) (by omega)]
      simp (disch := omega) only [lep, if_neg (show ¬ count ≤ i by omega), z_100, z_1, em, b2, b2_e]
      rw [nI_add]
      exact c2
theorem sim_run : Sim_run Rel := by
  intro M a1 a2 a3 h
  unfold f10_run f11_run
  rcases key_c a1 with ⟨e1, e2⟩ | ⟨k, hk, rfl, e1, e2⟩
  · refine ⟨_, M, M 7 0, by rw [e1]; rfl, rfl, by rw [e2]; rfl, rel_no h⟩
  rw [e1, bd_e, if_neg (show ¬ (1 : Int32) = 0 by decide), e2]
  simp only [bd_e, if_neg (show ¬ (1 : Int32) = 0 by decide)]
  rcases key_c a2 with ⟨e3, e4⟩ | ⟨st, hst, rfl, e3, e4⟩
  · have e4 : f11_in a2 0 99 = some 0 := by
      unfold f11_isKey at e4
      revert e4
      unfold f11_in
      split
      · intro; rfl
      · split
        · intro; rfl
        · intro h; exact absurd h (by decide)
    refine ⟨_, M, M 7 0, by rw [e3]; rfl, rfl, by rw [e4]; rfl, rel_no h⟩
  have e4 : f11_in (nI st) 0 99 = some 1 := by
    unfold f11_in
    simp (disch := omega) only [rd_n, ck_n, wr_n, cl_n, st_e, b2_e, bd_e, ltp, lep, eqp, m1p, m1l, m1e, m1a, nI_add, pk_sub, pk_mul, dvp, nzp, up_s, up_x, up_01, if_true, if_false, Nat.not_lt_zero, Nat.zero_add, z_0, z_1, z_2, z_3, z_4, z_5, z_10, z_11, z_15, z_20, z_30, z_63, z_64, z_99, z_100, z_127, z_128, z_200, z_256, z_300, z_400, z_500, z_600, z_601, z_602, z_603, z_604, z_605, z_606, z_862, z_990, z_1000, z_1090, z_1390, z_1393, z_1394, z_1395, z_1396, z_1397, z_1398, z_1399, z_1400, z_1401, z_1402, z_1403, z_1404, z_1405, z_1705, z_1805, z_7220, if_neg (show ¬ 99 < st by omega)]
  rw [e3]
  simp only [bd_e, e4, if_neg (show ¬ (1 : Int32) = 0 by decide)]
  have e5 : (a3 < 1 ∧ f11_in a3 1 100 = some 0) ∨ (¬ a3 < 1 ∧ ¬ a3 ≤ 100 ∧ f11_in a3 1 100 = some 0) ∨ ∃ c, 1 ≤ c ∧ c ≤ 100 ∧ a3 = nI c ∧ f11_in a3 1 100 = some 1 := rng_c a3 (lo := 1) (hi := 100) (by decide) (by decide)
  rcases e5 with ⟨q1, q2⟩ | ⟨q1, q2, q3⟩ | ⟨c, q1, q2, rfl, q3⟩
  · exact ⟨_, M, M 7 0, if_pos q1, rfl, by rw [q2]; rfl, rel_no h⟩
  · exact ⟨_, M, M 7 0, by rw [if_neg q1, if_neg q2], rfl, by rw [q3]; rfl, rel_no h⟩
  obtain ⟨D, C, s, sv, K, h⟩ := h
  obtain ⟨r, S2, y, s2, b1, b2, b3, b4, b5⟩ := run_l (M := M) (g := M 7 0) (b := M 7 0 1 1398) h.1.2 h.1.1 h.2.2.2.2.1.2.2.1 h.2.2.2.2.1.2.2.2 hk hst q2 c 0 NF NF 0 s (M 0) (M 7 0 1) (by omega) (by omega) (by show c < 8000; omega) (by show c < 8000; omega) (by omega) h.2.1 h.2.2.1 h.2.2.2.1 (by show _ = _ + (0 : Int32); rw [Int32.add_zero])
  rw [show (k + 0 * st) % 100 = k by omega] at b1
  refine ⟨r, va_up M 0 S2, va_up (M 7 0) 1 y, ?_, by rw [up_n (by decide)], ?_, D, C, s2, sv, K, rel_st h b3 b4 b5⟩
  · have hid : va_up M 0 (M 0) = M := up_id _ _
    rw [hid] at b1
    simp (disch := omega) only [rd_n, ck_n, wr_n, cl_n, st_e, b2_e, bd_e, ltp, lep, eqp, m1p, m1l, m1e, m1a, nI_add, pk_sub, pk_mul, dvp, nzp, up_s, up_x, up_01, if_true, if_false, Nat.not_lt_zero, Nat.zero_add, z_0, z_1, z_2, z_3, z_4, z_5, z_10, z_11, z_15, z_20, z_30, z_63, z_64, z_99, z_100, z_127, z_128, z_200, z_256, z_300, z_400, z_500, z_600, z_601, z_602, z_603, z_604, z_605, z_606, z_862, z_990, z_1000, z_1090, z_1390, z_1393, z_1394, z_1395, z_1396, z_1397, z_1398, z_1399, z_1400, z_1401, z_1402, z_1403, z_1404, z_1405, z_1705, z_1805, z_7220, if_neg (show ¬ c < 1 by omega), if_pos (show c ≤ 100 by omega)]
    exact b1
  · rw [m_id] at b2
    rw [q3, m_0]
    simp only [bd_e, if_neg (show ¬ (1 : Int32) = 0 by decide)]
    rw [z_1398, rd_n (by omega) (by omega)]
    exact b2
theorem uS_z {Z Y : Nat → Nat} : ∀ l : List Nat, (∀ k, k ∈ l → Y k = Z k) → uS Y l = uS Z l
  | [], _ => rfl
  | a :: l, h => by
    show Y a + uS Y l = Z a + uS Z l
    rw [h a List.mem_cons_self, uS_z l (fun k hk => h k (List.mem_cons_of_mem _ hk))]
theorem uS_er {Z : Nat → Nat} {k : Nat} {l : List Nat} : uS Z (l.erase k) ≤ uS Z l := by
  by_cases h : k ∈ l
  · have := uS_erase (Z := Z) l h
    omega
  · rw [er_n h]; exact Nat.le_refl _
theorem sim_remove : Sim_remove Rel := by
  intro M a h
  unfold f10_remove f11_remove
  rcases key_c a with ⟨e1, e2⟩ | ⟨k, hk, rfl, e1, e2⟩
  · refine ⟨_, M, M 7 0, by rw [e1]; rfl, rfl, by rw [e2]; rfl, rel_no h⟩
  obtain ⟨D, C, s, sv, K, h⟩ := h
  obtain ⟨A, ⟨w, p, q⟩, Z, ⟨mode, W, step, per, ch, ca, cb⟩, ⟨o, acc, hits, dir⟩, T⟩ := s
  obtain ⟨k1, k2, k3, k4, k5, k7, k8, k9, k14, ⟨k15, k15b⟩, k16⟩ := h.2.1
  obtain ⟨s1, s2, s3, s4, s5, s6, s7⟩ := h.2.2.1
  obtain ⟨x1, x2, x3, xV⟩ := h.2.2.2.1
  obtain ⟨g2, t1, t2⟩ := pr_take (by decide) k3 k4 s2 hk
  have hw := s2.2.2.2.1 k hk
  have okO : okL 3 (L3 (w.erase k) (p.erase k) (q.erase k)) := by rw [← L3_out]; exact ok_out k3 k
  have okN : okS D C (A, (w.erase k, p.erase k, q.erase k), Z, (mode, W, step, per, ch, ca, cb), (o, acc, hits, dir), T) := by
    refine ⟨k1, k2, okO, k4, k5, k7, k8, k9, k14, ⟨k15, k15b⟩, Nat.le_trans uS_er k16.1, ?_, Nat.le_trans uS_er k16.2.2⟩
    have e := k16.2.1
    rw [uS_app] at e ⊢
    exact Nat.le_trans (Nat.add_le_add uS_er uS_er) e
  have rsN : RS D C (A, (w.erase k, p.erase k, q.erase k), Z, (mode, W, step, per, ch, ca, cb), (o, acc, hits, dir), T) (va_up (M 0) 3 g2) := by
    rw [L3_out] at t2
    refine ⟨?_, ?_, ?_, ?_, ?_, ?_, ?_⟩
    · rw [up_n (by decide)]; exact s1
    · rw [up_s]; exact t2
    · rw [up_n (by decide)]; exact s3
    · rw [up_n (by decide)]; exact s4
    · rw [up_n (by decide)]; exact s5
    · rw [up_n (by decide)]; exact s6
    · rw [up_n (by decide)]; exact s7
  have hcl : ∀ v : Int32, M 0 3 4 k = v → ((rd 100 (M 0 3 4) (nI k) (fun v6 => ((f5_takeOut 3 (nI k) (M 0 3)).bind (fun g8 => (st (uI M 0 3 g8) (fun M9 => (some (v6, M9)))))))) : Option (Int32 × Me)) = some (v, va_up M 0 (va_up (M 0) 3 g2)) := by
    intro v hv
    rw [rd_n hk (by omega), t1, hv]
    rfl
  rw [e1, e2]
  simp only [bd_e, if_neg (show ¬ (1 : Int32) = 0 by decide)]
  by_cases hin : ∃ r, r < 3 ∧ k ∈ L3 w p q r
  · obtain ⟨r, hr, hin⟩ := hin
    obtain ⟨i, hi, hg, hf, her⟩ := pos_ex _ hin
    obtain ⟨y, m1, m2, m3⟩ := pm_take (g := M 7 0) hr k3 x3 hi
    rw [m_id] at m1
    have rq : RQ (L3 (w.erase k) (p.erase k) (q.erase k)) Z y := by
      refine m2.congr (fun r2 hr2 => ?_)
      rw [← L3_out]
      unfold eiL outL
      by_cases e : r2 = r
      · subst e
        rw [up_s, her]
      · rw [up_n e, er_n (fun hk2 => e (k3.2 r2 r k hr2 hr hk2 hin))]
    refine ⟨nI r, va_up M 0 (va_up (M 0) 3 g2), va_up (M 7 0) 1 y, hcl _ (hw.1 r hr hin), by rw [up_n (by decide)], ?_, D, C, _, sv, K, rel_st h okN rsN ⟨x1.fr (fun j hj => m3 j (by omega)), x2.fr (fun j hj => m3 j (by omega)), rq, xV.fr k15 (fun j hj => m3 j (by omega)) (by rw [m3 _ (by omega)]; exact xV.2.2.1.2.2.1)⟩⟩
    rw [m_0, pm_part hr k3 x3 hk hin, bd_e, if_neg (show ¬ nI r < 0 by rw [z_0, ltp (by omega) (by omega)]; omega), pm_idx hr k3 x3 hk hi hg hf, bd_e, m1]
    rfl
  · have hn : ∀ r, r < 3 → k ∉ L3 w p q r := fun r hr hi => hin ⟨r, hr, hi⟩
    have rq : RQ (L3 (w.erase k) (p.erase k) (q.erase k)) Z (M 7 0 1) := by
      refine x3.congr (fun r hr => ?_)
      rw [← L3_out]
      unfold outL
      rw [er_n (hn r hr)]
    refine ⟨-1, va_up M 0 (va_up (M 0) 3 g2), va_up (M 7 0) 1 (M 7 0 1), hcl _ (hw.2 hn), by rw [up_n (by decide)], ?_, D, C, _, sv, K, rel_st h okN rsN ⟨x1, x2, rq, xV⟩⟩
    rw [m_0, pm_partN k3 x3 hk hn, bd_e, if_pos (show (-1 : Int32) < 0 by decide), m_id]
theorem sim_size : Sim_size Rel := by
  intro M a1 a2 h
  unfold f10_size f11_size
  rcases key_c a1 with ⟨e1, e2⟩ | ⟨k, hk, rfl, e1, e2⟩
  · refine ⟨_, M, M 7 0, by rw [e1]; rfl, rfl, by rw [e2]; rfl, rel_no h⟩
  rw [e1, e2]
  simp only [bd_e, if_neg (show ¬ (1 : Int32) = 0 by decide)]
  have e5 : (a2 < 1 ∧ f11_in a2 1 20 = some 0) ∨ (¬ a2 < 1 ∧ ¬ a2 ≤ 20 ∧ f11_in a2 1 20 = some 0) ∨ ∃ c, 1 ≤ c ∧ c ≤ 20 ∧ a2 = nI c ∧ f11_in a2 1 20 = some 1 := rng_c a2 (lo := 1) (hi := 20) (by decide) (by decide)
  rcases e5 with ⟨q1, q2⟩ | ⟨q1, q2, q3⟩ | ⟨c, q1, q2, rfl, q3⟩
  · exact ⟨_, M, M 7 0, if_pos q1, rfl, by rw [q2]; rfl, rel_no h⟩
  · exact ⟨_, M, M 7 0, by rw [if_neg q1, if_neg q2], rfl, by rw [q3]; rfl, rel_no h⟩
  obtain ⟨D, C, s, sv, K, h⟩ := h
  have hrel := h
  obtain ⟨A, ⟨w, p, q⟩, Z, ⟨mode, W, step, per, ch, ca, cb⟩, ⟨o, acc, hits, dir⟩, T⟩ := s
  obtain ⟨k1, k2, k3, k4, k5, k7, k8, k9, k14, ⟨k15, k15b⟩, k16⟩ := h.2.1
  obtain ⟨s1, s2, s3, s4, s5, s6, s7⟩ := h.2.2.1
  obtain ⟨x1, x2, x3, xV⟩ := h.2.2.2.1
  have hw := s2.2.2.2.1 k hk
  rw [q3]
  simp only [bd_e, if_neg (show ¬ (1 : Int32) = 0 by decide)]
  rw [if_neg (show ¬ nI c < 1 by rw [z_1, ltp (by omega) (by omega)]; omega), if_pos (show nI c ≤ 20 by rw [z_20, lep (by omega) (by omega)]; omega), rd_n hk (by omega)]
  by_cases hin : ∃ r, r < 3 ∧ k ∈ L3 w p q r
  · obtain ⟨r, hr, hin⟩ := hin
    refine ⟨-3, M, M 7 0, ?_, rfl, ?_, rel_no ⟨D, C, _, sv, K, hrel⟩⟩
    · rw [hw.1 r hr hin, if_neg (nI_nm1 (by omega))]
    · rw [pm_part hr k3 x3 hk hin, bd_e, if_neg (show ¬ nI r < 0 by rw [z_0, ltp (by omega) (by omega)]; omega)]
  · have hn : ∀ r, r < 3 → k ∉ L3 w p q r := fun r hr hi => hin ⟨r, hr, hi⟩
    have hu : ∀ r, r < 3 → uS (fun j => if j = k then c else Z j) (L3 w p q r) = uS Z (L3 w p q r) := fun r hr => uS_z _ (fun j hj => if_neg (fun e : j = k => hn r hr (e ▸ hj)))
    have hu0 := hu 0 (by decide)
    have hu1 := hu 1 (by decide)
    have hu2 := hu 2 (by decide)
    simp only [L3] at hu0 hu1 hu2
    refine ⟨nI (Z k), va_up M 0 (va_up (M 0) 3 (va_up (M 0 3) 5 (upd (M 0 3 5) k (nI c)))), va_up (M 7 0) 1 (upd (M 7 0 1) (990 + k) (nI c)), ?_, by rw [up_n (by decide)], ?_, D, C, (A, (w, p, q), (fun j => if j = k then c else Z j), (mode, W, step, per, ch, ca, cb), (o, acc, hits, dir), T), sv, K, rel_st h ⟨k1, k2, k3, ?_, k5, k7, k8, k9, k14, ⟨k15, k15b⟩, ?_⟩ ⟨?_, ?_, ?_, ?_, ?_, ?_, ?_⟩ ⟨x1.fr (fun j hj => by rw [ud_n (by omega)]), x2.fr (fun j hj => by rw [ud_n (by omega)]), ?_, xV.fr k15 (fun j hj => by rw [ud_n (by omega)]) (by rw [ud_n (by omega)]; exact xV.2.2.1.2.2.1)⟩⟩
    · rw [hw.2 hn, if_pos rfl, rd_n hk (by omega), wr_n hk (by omega), cl_n (by omega), s2.2.2.2.2 k hk]
      rfl
    · rw [m_0, pm_partN k3 x3 hk hn, bd_e, if_pos (show (-1 : Int32) < 0 by decide)]
      simp (disch := omega) only [rd_n, ck_n, wr_n, cl_n, st_e, b2_e, bd_e, ltp, lep, eqp, m1p, m1l, m1e, m1a, nI_add, pk_sub, pk_mul, dvp, nzp, up_s, up_x, up_01, if_true, if_false, Nat.not_lt_zero, Nat.zero_add, z_0, z_1, z_2, z_3, z_4, z_5, z_10, z_11, z_15, z_20, z_30, z_63, z_64, z_99, z_100, z_127, z_128, z_200, z_256, z_300, z_400, z_500, z_600, z_601, z_602, z_603, z_604, z_605, z_606, z_862, z_990, z_1000, z_1090, z_1390, z_1393, z_1394, z_1395, z_1396, z_1397, z_1398, z_1399, z_1400, z_1401, z_1402, z_1403, z_1404, z_1405, z_1705, z_1805, z_7220, x3.2.2 k hk]
    · intro j hj
      show 1 ≤ (if j = k then c else Z j) ∧ (if j = k then c else Z j) ≤ 20
      by_cases e : j = k
      · rw [if_pos e]; exact ⟨q1, q2⟩
      · rw [if_neg e]; exact k4 j hj
    · rw [uS_app, hu0, hu1, hu2, ← uS_app]
      exact k16
    · rw [up_n (by decide)]; exact s1
    · rw [up_s]
      refine ⟨fun r hr => ?_, fun r hr => ?_, fun r i hr hi => ?_, fun j hj => ?_, fun j hj => ?_⟩
      · rw [up_n (by decide)]; exact s2.1 r hr
      · rw [up_n (by decide), hu r hr]; exact s2.2.1 r hr
      · rw [up_n (by omega)]; exact s2.2.2.1 r i hr hi
      · rw [up_n (by decide)]; exact s2.2.2.2.1 j hj
      · rw [up_s]
        show upd (M 0 3 5) k (nI c) j = nI (if j = k then c else Z j)
        by_cases e : j = k
        · rw [e, ud_s, if_pos rfl]
        · rw [ud_n e, if_neg e]; exact s2.2.2.2.2 j hj
    · rw [up_n (by decide)]; exact s3
    · rw [up_n (by decide)]; exact s4
    · rw [up_n (by decide)]; exact s5
    · rw [up_n (by decide)]; exact s6
    · rw [up_n (by decide)]; exact s7
    · refine ⟨fun r hr => ?_, fun r i hr hi => ?_, fun j hj => ?_⟩
      · rw [ud_n (by omega)]; exact x3.1 r hr
      · rw [ud_n (by omega)]; exact x3.2.1 r i hr hi
      · show upd (M 7 0 1) (990 + k) (nI c) (990 + j) = nI (if j = k then c else Z j)
        by_cases e : j = k
        · rw [e, ud_s, if_pos rfl]
        · rw [ud_n (by omega), if_neg e]; exact x3.2.2 j hj
