/-! the beginning -/
def P0 (r k : Nat) : Nat := (k * (2 * r + 5) + 11 * r) % 64
def D0 (w k : Nat) : Nat := if w = 0 then k else (5 * k + 64) % 128
def A0 : AK := (P0, D0, (fun _ _ => 0), (fun _ => 0), (fun i => if i = 0 then 1 else if i = 2 then 200 else 0), 0)
theorem A0_ok {D : Nat} (h1 : 1 ≤ D) (h2 : D ≤ 4) : okK D A0 := by
  refine ⟨h1, h2, fun r k hr hk => Nat.mod_lt _ (by decide), fun w k hw hk => ?_, fun r c hr hc => Nat.zero_le _, fun r c _ _ _ => rfl, fun b hb => Nat.zero_le _, Nat.le_refl 1, Nat.zero_le _, ?_, ?_, Nat.zero_le _⟩
  · show (if w = 0 then k else (5 * k + 64) % 128) < 128
    split
    · omega
    · exact Nat.mod_lt _ (by decide)
  · show 10 ≤ 200
    omega
  · show 200 ≤ 1000
    omega
theorem p0_v {r k : Nat} (hr : r < 4) (hk : k < 100) : nI k * (nI 2 * nI r + nI 5) + nI 11 * nI r - (nI k * (nI 2 * nI r + nI 5) + nI 11 * nI r) / nI 64 * nI 64 = nI (P0 r k) := by
  have hm : k * (2 * r + 5) ≤ 100 * 11 := Nat.mul_le_mul (by omega) (by omega)
  rw [pk_mul, nI_add, pk_mul, pk_mul, nI_add, rem_n (by omega) (by omega) (by omega)]
  rfl
theorem d1_v {k : Nat} (hk : k < 100) : nI 5 * nI k + nI 64 - (nI 5 * nI k + nI 64) / nI 128 * nI 128 = nI (D0 1 k) := by
  rw [pk_mul, nI_add, rem_n (by omega) (by omega) (by omega)]
  rfl
def IvK (g0 : Sg) (i : Nat) (g : Sg) : Prop := (∀ r k, r < 4 → k < i → g (r + 10) k = nI (P0 r k)) ∧ (∀ w k, w < 2 → k < i → g (w + 14) k = nI (D0 w k)) ∧ ∀ o, (o < 10 ∨ 16 ≤ o) → g o = g0 o
theorem ks_in {g0 : Sg} {rec : Int32 → Sg → Option Sg} {i : Nat} (hi : i < 100) : ∀ (m r n : Nat) (g : Sg), 4 - r = m → r ≤ 4 → m < n → IvK g0 i g → (∀ q, q < r → g (q + 10) i = nI (P0 q i)) → ∃ g2, kSketch_l104 rec n (nI i) (nI r) g = rec (nI (i + 1)) g2 ∧ IvK g0 (i + 1) g2 := by
  intro m
  induction m with
  | zero =>
    intro r n g e hr hn h1 h2
    obtain ⟨n, rfl⟩ : ∃ k, n = k + 1 := ⟨n - 1, by omega⟩
    refine ⟨va_up (va_up g 14 (upd (g 14) i (nI i))) 15 (upd (g 15) i (nI (D0 1 i))), ?_, ⟨fun r k hr hk => ?_, fun w k hw hk => ?_, fun o ho => ?_⟩⟩
    · show kSketch_b104 rec (kSketch_l104 rec n) _ _ _ = _
      unfold kSketch_b104 kSketch_j138
      have e5 := d1_v hi
      simp (disch := omega) only [z_4, lep, if_pos (show 4 ≤ r by omega), z_0, z_1, z_2, z_5, z_64, z_128, ck_n, wr_n, cl_n, e5, nI_add, Nat.zero_add]
      rw [show 1 + 14 = 15 from rfl, up_n (show (15 : Nat) ≠ 14 by decide)]
    · rw [up_n (by omega), up_n (by omega)]
      by_cases e2 : k = i
      · rw [e2]; exact h2 r (by omega)
      · exact h1.1 r k hr (by omega)
    · by_cases e3 : w = 0
      · subst e3
        rw [up_n (by omega), up_s]
        by_cases e2 : k = i
        · rw [e2, ud_s]; rfl
        · rw [ud_n e2]; exact h1.2.1 0 k (by omega) (by omega)
      · have e4 : w = 1 := by omega
        subst e4
        rw [show 1 + 14 = 15 from rfl, up_s]
        by_cases e2 : k = i
        · rw [e2, ud_s]
        · rw [ud_n e2]; exact h1.2.1 1 k (by omega) (by omega)
    · rw [up_n (by omega), up_n (by omega)]; exact h1.2.2 o ho
  | succ m ih =>
    intro r n g e hr hn h1 h2
    obtain ⟨n, rfl⟩ : ∃ k, n = k + 1 := ⟨n - 1, by omega⟩
    obtain ⟨g2, a1, a2⟩ := ih (r + 1) n (va_up g (r + 10) (upd (g (r + 10)) i (nI (P0 r i)))) (by omega) (by omega) (by omega) ⟨fun q k hq hk => by
      by_cases e2 : q = r
      · subst e2
        rw [up_s, ud_n (by omega)]; exact h1.1 q k hq hk
      · rw [up_n (by omega)]; exact h1.1 q k hq hk, fun w k hw hk => by rw [up_n (by omega)]; exact h1.2.1 w k hw hk, fun o ho => by rw [up_n (by omega)]; exact h1.2.2 o ho⟩ (fun q hq => by
      by_cases e2 : q = r
      · subst e2
        rw [up_s, ud_s]
      · rw [up_n (by omega)]; exact h2 q (by omega))
    refine ⟨g2, ?_, a2⟩
    show kSketch_b104 rec (kSketch_l104 rec n) _ _ _ = _
    unfold kSketch_b104
    have e5 := p0_v (r := r) (by omega) hi
    simp (disch := omega) only [z_4, lep, if_neg (show ¬ 4 ≤ r by omega), z_1, z_2, z_5, z_11, z_64, ck_n, wr_n, cl_n, e5]
    rw [nI_add]
    exact a1
theorem ks_l {g0 : Sg} : ∀ (m i n : Nat) (g : Sg), 100 - i = m → i ≤ 100 → m < n → IvK g0 i g → ∃ g2, kSketch_l96 n (nI i) g = some g2 ∧ IvK g0 100 g2 := by
  intro m
  induction m with
  | zero =>
    intro i n g e hi hn h1
    obtain ⟨n, rfl⟩ : ∃ k, n = k + 1 := ⟨n - 1, by omega⟩
    have e2 : i = 100 := by omega
    subst e2
    refine ⟨g, ?_, h1⟩
    show kSketch_b96 (kSketch_l96 n) _ _ = _
    unfold kSketch_b96
    exact if_pos (show nI 100 ≤ nI 100 by rw [lep (by omega) (by omega)]; omega)
  | succ m ih =>
    intro i n g e hi hn h1
    obtain ⟨n, rfl⟩ : ∃ k, n = k + 1 := ⟨n - 1, by omega⟩
    obtain ⟨g2, a1, a2⟩ := ks_in (rec := kSketch_l96 n) (i := i) (by omega) 4 0 NF g rfl (by omega) (by decide) h1 (fun q hq => absurd hq (Nat.not_lt_zero q))
    obtain ⟨g3, b1, b2⟩ := ih (i + 1) n g2 (by omega) (by omega) (by omega) a2
    refine ⟨g3, ?_, b2⟩
    show kSketch_b96 (kSketch_l96 n) _ _ = _
    unfold kSketch_b96
    rw [if_neg (show ¬ (100 : Int32) ≤ nI i by rw [z_100, lep (by omega) (by omega)]; omega)]
    exact a1.trans b1
theorem ks_B {D : Nat} : ∃ m4, kSketch_B (gSk (nI D)) = some m4 ∧ RK D A0 m4 ∧ m4 0 5 = nI D := by
  obtain ⟨g2, a1, a2⟩ := ks_l (g0 := gSk (nI D)) 100 0 NF (gSk (nI D)) rfl (by omega) (by decide) ⟨fun r k hr hk => absurd hk (Nat.not_lt_zero k), fun r k hr hk => absurd hk (Nat.not_lt_zero k), fun o ho => rfl⟩
  have h0 : g2 0 = gSk (nI D) 0 := a2.2.2 0 (by omega)
  refine ⟨g2, a1, ⟨?_, ?_, ?_, ?_, ?_, ?_, a2.1, a2.2.1, fun r c hr hc => ?_, fun b hb => ?_, fun k hk => ⟨0, ?_, Nat.zero_le _, Nat.zero_le _⟩⟩, ?_⟩
  · rw [h0]; rfl
  · rw [h0]; rfl
  · rw [h0]; rfl
  · rw [h0]; rfl
  · rw [h0]; rfl
  · rw [h0]; rfl
  · rw [a2.2.2 _ (by omega)]
    show (if r + 6 = 0 then _ else (0 : Int32)) = nI 0
    rw [if_neg (by omega)]; rfl
  · rw [a2.2.2 _ (by omega)]; rfl
  · rw [a2.2.2 _ (by omega)]; rfl
  · rw [h0]; rfl
theorem cl_id {t lo hi : Nat} (h1 : lo ≤ t) (h2 : t ≤ hi) (hh : hi < 1000) : (if nI lo < (if nI t < nI hi then nI t else nI hi) then (if nI t < nI hi then nI t else nI hi) else nI lo) = nI t := by
  have e : (if nI t < nI hi then nI t else nI hi) = nI t := by
    by_cases e : t < hi
    · rw [if_pos (by rw [ltp (by omega) (by omega)]; exact e)]
    · rw [if_neg (by rw [ltp (by omega) (by omega)]; exact e), show hi = t by omega]
  rw [e]
  by_cases e2 : lo < t
  · rw [if_pos (by rw [ltp (by omega) (by omega)]; exact e2)]
  · rw [if_neg (by rw [ltp (by omega) (by omega)]; exact e2), show lo = t by omega]
theorem sim_save : Sim_save Rel := by
  intro M a h
  have hno := rel_no h
  obtain ⟨D, C, s, sv, K, h⟩ := h
  have hacc : M 7 0 1 1397 = M 0 0 0 3 := by
    have a1 := h.2.2.1
    have a2 := h.2.2.2.1
    obtain ⟨A, ⟨w, p, q⟩, Z, ⟨mode, W, step, per, ch, ca, cb⟩, ⟨o, acc, hits, dir⟩, T⟩ := s
    rw [a1.2.2.2.2.2.1, a2.2.2.2.2.2.1.1]
  have hD : 1 ≤ D ∧ D ≤ 4 := by
    have a1 := h.2.1
    obtain ⟨A, ⟨w, p, q⟩, Z, ⟨mode, W, step, per, ch, ca, cb⟩, ⟨o, acc, hits, dir⟩, T⟩ := s
    exact ⟨a1.1.1, a1.1.2.1⟩
  rcases in_c a 4 (by omega) with ⟨e1, e2⟩ | ⟨r, hr, rfl, e2⟩
  · have e2 : f11_in a 0 3 = some 0 := e2
    refine Or.inl ⟨-2, M, M 7 0, ?_, rfl, by unfold f11_save; rw [e2]; rfl, hno⟩
    unfold f10_save
    by_cases h0 : a < 0
    · exact if_pos h0
    · rw [if_neg h0]; exact if_neg (Int32.not_lt.mpr (e1.resolve_left h0))
  by_cases hf : M 6 0 1 r = 1
  · rcases h.2.2.2.2.2.1 r hr with ⟨b1, b2, b3, b4, b5⟩ | ⟨b1, b2⟩
    · have hc : M (r + 1) 2 0 5 = nI D ∧ M (r + 1) 1 0 2 = nI C := by
        generalize hs : sv r = s2 at b3 b4 b5
        obtain ⟨A, ⟨w, p, q⟩, Z, ⟨mode, W, step, per, ch, ca, cb⟩, ⟨o, acc, hits, dir⟩, T⟩ := s2
        exact ⟨b4.1.1, b4.2.2.1.1⟩
      obtain ⟨S2, c1, c2, c3⟩ := cp8 (S := M (r + 1)) h.2.1 h.2.2.1 hc.1 hc.2
      refine Or.inl ⟨M 0 0 0 3, va_up M (r + 1) S2, svG (M 7 0) r, ?_, by rw [up_n (by omega)], ?_, ?_⟩
      · unfold f10_save
        rw [if_neg (show ¬ nI r < 0 by rw [z_0, ltp (by omega) (by omega)]; omega), if_pos (show nI r < 4 by rw [z_4, ltp (by omega) (by omega)]; omega), ck_n hr (by omega), ck_n hr (by omega), cl_n (by omega), if_pos hf, c1]
        show some (va_up M (r + 1) S2 0 0 0 3, va_up M (r + 1) S2) = _
        rw [up_n (by omega)]
      · rw [up_n (by omega), pm_save hr, hacc]
      · refine rel_sv hr h c2 ?_ ?_ ?_ ?_ ?_ ?_ ?_ uI_at
        · rw [uI_ne (by omega), up_n (by omega)]
        · rw [uI_ne (by omega), up_n (by omega)]
        · rw [uI_ne (by omega), up_n (by omega)]
        · rw [uI_ne (by omega), up_s]
        · intro q hq hn
          rw [uI_ne (by omega), up_n (by omega)]
        · rw [uI_ne (by omega), up_n (by omega)]; exact hf
        · intro q hq hn
          rw [uI_ne (by omega), up_n (by omega)]
    · exact absurd hf b1
  · obtain ⟨m4, k1, k2, k3⟩ := ks_B (D := D)
    have hcl := cl_id (t := D) (lo := 1) (hi := 4) hD.1 hD.2 (by decide)
    obtain ⟨S2, c1, c2, c3⟩ := cp8 (S := Sinit (va_up (va_up gz 4 (fl 100 (-1 : Int32) (gz 4))) 5 (fl 100 (1 : Int32) (gz 5))) m4 (M 6 0 0 1) (M 6 0 0 2)) h.2.1 h.2.2.1 (show m4 0 5 = nI D from k3) (show M 6 0 0 1 = nI C from h.2.2.2.2.1.2.1)
    refine Or.inr ⟨vp_in_nI hr (by omega), ?_, _, m4, S2, svG (M 7 0) r, rfl, ?_, c1, by rw [pm_save hr, hacc], ?_⟩
    · rw [cl_n (by omega)]; exact hf
    · rw [h.2.2.2.2.1.1]
      have hcl : (if (1 : Int32) < (if nI D < (4 : Int32) then nI D else (4 : Int32)) then (if nI D < (4 : Int32) then nI D else (4 : Int32)) else (1 : Int32)) = nI D := hcl
      rw [hcl]
      exact k1
    · rw [cl_n (by omega)]
      refine rel_sv hr h c2 ?_ ?_ ?_ ?_ ?_ ?_ ?_ uI_at
      · rw [uI_ne (by omega), up_n (by omega), uC_grpne (by omega)]
      · rw [uI_ne (by omega), up_n (by omega), uC_grpne (by omega)]
      · rw [uI_ne (by omega), up_n (by omega)]
        exact uC_ne (by simp)
      · rw [uI_ne (by omega), up_s]
      · intro q hq hn
        rw [uI_ne (by omega), up_n (by omega), uC_grpne (by omega)]
      · rw [uI_ne (by omega), up_n (by omega), uC_at, ud_s]
      · intro q hq hn
        rw [uI_ne (by omega), up_n (by omega), uC_at, ud_n hn]
theorem km_in {g : Sg} {rec : Int32 → Int32 → Sg → Option Sg} {v : Int32} {r : Nat} (hr : r < 4) {x : Nat → Int32} : ∀ (m k n : Nat), 100 - k = m → k ≤ 100 → m < n → kModel_l127 rec n v (nI r) (nI k) (va_up g 1 (ov (fun j => nI (P0 (j / 100) (j % 100))) 0 (100 * r + k) x)) = rec v (nI (r + 1)) (va_up g 1 (ov (fun j => nI (P0 (j / 100) (j % 100))) 0 (100 * (r + 1)) x)) := by
  intro m
  induction m with
  | zero =>
    intro k n e hk hn
    obtain ⟨n, rfl⟩ : ∃ k, n = k + 1 := ⟨n - 1, by omega⟩
    have e2 : k = 100 := by omega
    subst e2
    show kModel_b127 rec (kModel_l127 rec n) _ _ _ _ = _
    unfold kModel_b127
    simp (disch := omega) only [rd_n, ck_n, wr_n, cl_n, st_e, b2_e, bd_e, ltp, lep, eqp, m1p, m1l, m1e, m1a, nI_add, pk_sub, pk_mul, dvp, nzp, up_s, up_x, up_01, if_true, if_false, Nat.not_lt_zero, Nat.zero_add, z_0, z_1, z_2, z_3, z_4, z_5, z_10, z_11, z_15, z_20, z_30, z_63, z_64, z_99, z_100, z_127, z_128, z_200, z_256, z_300, z_400, z_500, z_600, z_601, z_602, z_603, z_604, z_605, z_606, z_862, z_990, z_1000, z_1090, z_1390, z_1393, z_1394, z_1395, z_1396, z_1397, z_1398, z_1399, z_1400, z_1401, z_1402, z_1403, z_1404, z_1405, z_1705, z_1805, z_7220, if_pos (Nat.le_refl 100)]
    rw [show 100 * r + 100 = 100 * (r + 1) by omega]
  | succ m ih =>
    intro k n e hk hn
    obtain ⟨n, rfl⟩ : ∃ k, n = k + 1 := ⟨n - 1, by omega⟩
    show kModel_b127 rec (kModel_l127 rec n) _ _ _ _ = _
    unfold kModel_b127
    have e5 := p0_v (r := r) (k := k) hr (by omega)
    have e6 : nI 0 + nI 100 * nI r + nI k = nI (100 * r + k) := by rw [pk_mul, nI_add, nI_add, Nat.zero_add]
    simp (disch := omega) only [z_100, lep, if_neg (show ¬ 100 ≤ k by omega), z_0, z_1, z_2, z_5, z_11, z_64, e5, e6, wr_n, cl_n, up_s, up_x]
    have e7 := ov_s (z := fun j => nI (P0 (j / 100) (j % 100))) (x := x) (b := 0) (n := 100 * r + k) (v := nI (P0 r k)) (by
      show nI (P0 r k) = nI (P0 ((0 + (100 * r + k)) / 100) ((0 + (100 * r + k)) % 100))
      rw [show (0 + (100 * r + k)) / 100 = r by omega, show (0 + (100 * r + k)) % 100 = k by omega])
    rw [Nat.zero_add] at e7
    rw [e7, nI_add]
    exact ih (k + 1) n (by omega) (by omega) (by omega)
theorem km_l {g : Sg} {v : Int32} {x : Nat → Int32} : ∀ (m r n : Nat), 4 - r = m → r ≤ 4 → m < n → kModel_l118 n v (nI r) (va_up g 1 (ov (fun j => nI (P0 (j / 100) (j % 100))) 0 (100 * r) x)) = kModel_j179 v (va_up g 1 (ov (fun j => nI (P0 (j / 100) (j % 100))) 0 400 x)) := by
  intro m
  induction m with
  | zero =>
    intro r n e hr hn
    obtain ⟨n, rfl⟩ : ∃ k, n = k + 1 := ⟨n - 1, by omega⟩
    have e2 : r = 4 := by omega
    subst e2
    show kModel_b118 (kModel_l118 n) _ _ _ = _
    unfold kModel_b118
    exact if_pos (show nI 4 ≤ nI 4 by rw [lep (by omega) (by omega)]; omega)
  | succ m ih =>
    intro r n e hr hn
    obtain ⟨n, rfl⟩ : ∃ k, n = k + 1 := ⟨n - 1, by omega⟩
    have h1 := km_in (g := g) (rec := kModel_l118 n) (v := v) (r := r) (by omega) (x := x) 100 0 NF rfl (by omega) (by decide)
    rw [Nat.add_zero] at h1
    show kModel_b118 (kModel_l118 n) _ _ _ = _
    unfold kModel_b118
    rw [if_neg (show ¬ (4 : Int32) ≤ nI r by rw [z_4, lep (by omega) (by omega)]; omega)]
    exact h1.trans (ih (r + 1) n (by omega) (by omega) (by omega))
theorem km_d {g : Sg} {v : Int32} : ∀ (m k n : Nat) (x : Nat → Int32), 100 - k = m → k ≤ 100 → m < n → (∀ j, j < k → x (400 + j) = nI j ∧ x (500 + j) = nI (D0 1 j) ∧ x (990 + j) = nI 1) → ∃ y, kModel_l182 n v (nI k) (va_up g 1 x) = kModel_j242 v (va_up g 1 y) ∧ (∀ j, j < 100 → y (400 + j) = nI j ∧ y (500 + j) = nI (D0 1 j) ∧ y (990 + j) = nI 1) ∧ ∀ j, (j < 400 ∨ (600 ≤ j ∧ j < 990) ∨ 1090 ≤ j) → y j = x j := by
  intro m
  induction m with
  | zero =>
    intro k n x e hk hn h1
    obtain ⟨n, rfl⟩ : ∃ k, n = k + 1 := ⟨n - 1, by omega⟩
    have e2 : k = 100 := by omega
    subst e2
    refine ⟨x, ?_, h1, fun j _ => rfl⟩
    show kModel_b182 (kModel_l182 n) _ _ _ = _
    unfold kModel_b182
    exact if_pos (show nI 100 ≤ nI 100 by rw [lep (by omega) (by omega)]; omega)
  | succ m ih =>
    intro k n x e hk hn h1
    obtain ⟨n, rfl⟩ : ∃ k, n = k + 1 := ⟨n - 1, by omega⟩
    obtain ⟨y, a1, a2, a3⟩ := ih (k + 1) n (upd (upd (upd x (400 + k) (nI k)) (500 + k) (nI (D0 1 k))) (990 + k) (nI 1)) (by omega) (by omega) (by omega) (fun j hj => by
      by_cases e2 : j = k
      · subst e2
        refine ⟨?_, ?_, ?_⟩
        · rw [ud_n (by omega), ud_n (by omega), ud_s]
        · rw [ud_n (by omega), ud_s]
        · rw [ud_s]
      · obtain ⟨b1, b2, b3⟩ := h1 j (by omega)
        refine ⟨?_, ?_, ?_⟩
        · rw [ud_n (by omega), ud_n (by omega), ud_n (by omega)]; exact b1
        · rw [ud_n (by omega), ud_n (by omega), ud_n (by omega)]; exact b2
        · rw [ud_n (by omega), ud_n (by omega), ud_n (by omega)]; exact b3)
    refine ⟨y, ?_, a2, fun j hj => ?_⟩
    · show kModel_b182 (kModel_l182 n) _ _ _ = _
      unfold kModel_b182
      have e5 := d1_v (k := k) (by omega)
      simp (disch := omega) only [z_100, lep, if_neg (show ¬ 100 ≤ k by omega), z_400, z_500, z_990, z_1, z_5, z_64, z_128, e5, nI_add, wr_n, cl_n, up_s, up_x]
      exact a1
    · rw [a3 j hj, ud_n (by omega), ud_n (by omega), ud_n (by omega)]
theorem sim_init : Sim_init Rel := by
  intro a1 a2 a3
  obtain ⟨D, d1, d2, d3, d4⟩ := clamp (lo := 1) (hi := 4) (by decide) (by decide) a1
  obtain ⟨C, c1, c2, c3, c4⟩ := clamp (lo := 4) (hi := 200) (by decide) (by decide) a2
  obtain ⟨W, w1, w2, w3, w4⟩ := clamp (lo := 1) (hi := C - 1) (by omega) (by omega) a3
  obtain ⟨m4, k1, k2, k3⟩ := ks_B (D := D)
  have hcl := cl_id (t := D) (lo := 1) (hi := 4) d1 d2 (by decide)
  have d3 : (if (1 : Int32) < (if a1 < (4 : Int32) then a1 else (4 : Int32)) then (if a1 < (4 : Int32) then a1 else (4 : Int32)) else (1 : Int32)) = nI D := d3
  have c3 : (if (4 : Int32) < (if a2 < (200 : Int32) then a2 else (200 : Int32)) then (if a2 < (200 : Int32) then a2 else (200 : Int32)) else (4 : Int32)) = nI C := c3
  have hcl : (if (1 : Int32) < (if nI D < (4 : Int32) then nI D else (4 : Int32)) then (if nI D < (4 : Int32) then nI D else (4 : Int32)) else (1 : Int32)) = nI D := hcl
  have hC1 : nI C - 1 = nI (C - 1) := show nI C - nI 1 = nI (C - 1) from pk_sub (by omega)
  have w3 : (if (1 : Int32) < (if a3 < nI (C - 1) then a3 else nI (C - 1)) then (if a3 < nI (C - 1) then a3 else nI (C - 1)) else (1 : Int32)) = nI W := w3
  have l1 := km_l (g := gMo (nI D) (nI C)) (v := a3) (x := fun _ => 0) 4 0 NF rfl (by omega) (by decide)
  rw [ov_0, show va_up (gMo (nI D) (nI C)) 1 (fun _ => 0) = gMo (nI D) (nI C) from by
    funext o k
    by_cases e : o = 1
    · subst e; rw [up_s]; rfl
    · rw [up_n e]] at l1
  obtain ⟨x, hx⟩ : ∃ x, x = ov (fun j => nI (P0 (j / 100) (j % 100))) 0 400 (fun _ => (0 : Int32)) := ⟨_, rfl⟩
  rw [← hx] at l1
  have xo : ∀ j, 400 ≤ j → x j = 0 := fun j hj => by rw [hx, ov_o (by omega)]
  obtain ⟨y, y1, y2, y3⟩ := km_d (g := gMo (nI D) (nI C)) (v := a3) 100 0 NF x rfl (by omega) (by decide) (fun j hj => absurd hj (Nat.not_lt_zero j))
  have sw := fun z : Nat → Int32 => pm_setW (g := gMo (nI D) (nI C)) (x := z) (C := C) (W2 := W) (v := a3) rfl c2 c1 (by omega) w4
  obtain ⟨z, hz⟩ : ∃ z, z = upd (upd (upd (upd (upd (upd y 600 (nI 1)) 602 (nI 200)) 605 (nI 20)) 1400 (nI 1)) 1393 (nI W)) 1394 (nI ((C - W) * 4 / 5)) := ⟨_, rfl⟩
  have hm : kModel_B a3 (gMo (nI D) (nI C)) = some (va_up (gMo (nI D) (nI C)) 1 z) := by
    refine l1.trans ?_
    refine Eq.trans y1 ?_
    unfold kModel_j242
    simp (disch := omega) only [z_600, z_602, z_605, z_1400, z_1, z_200, z_20, wr_n, cl_n, up_s, up_x, sw, bd_e, ← hz]
  have zo : ∀ j, j ≠ 600 → j ≠ 602 → j ≠ 605 → j ≠ 1400 → j ≠ 1393 → j ≠ 1394 → z j = y j := fun j h1 h2 h3 h4 h5 h6 => by rw [hz, ud_n h6, ud_n h5, ud_n h4, ud_n h3, ud_n h2, ud_n h1]
  have z0 : ∀ j, (600 ≤ j ∧ j < 990) ∨ 1090 ≤ j → j ≠ 600 → j ≠ 602 → j ≠ 605 → j ≠ 1400 → j ≠ 1393 → j ≠ 1394 → z j = nI 0 := fun j hj h1 h2 h3 h4 h5 h6 => by rw [zo j h1 h2 h3 h4 h5 h6, y3 j (by omega), xo j (by omega)]; rfl
  refine ⟨_, m4, _, va_up (gMo (nI D) (nI C)) 1 z, nI D, nI C, rfl, ?_, rfl, d4, c4, hm, ?_⟩
  · simp only [d3, hcl]
    exact k1
  · simp only [d3, c3, hC1, w3]
    refine ⟨D, C, (A0, ([], [], []), (fun _ => 1), (0, W, 0, 20, 0, 0, 0), (0, 0, 0, 1), []), (fun _ => (A0, ([], [], []), (fun _ => 1), (0, W, 0, 20, 0, 0, 0), (0, 0, 0, 1), [])), [], ⟨c1, c2⟩, ?_, ?_, ?_, ?_, ?_, ?_, ?_⟩
    · refine ⟨A0_ok d1 d2, Nat.zero_le _, ⟨lt3 ?_ ?_ ?_, ?_⟩, fun k hk => ⟨Nat.le_refl 1, show 1 ≤ 20 by decide⟩, ⟨w1, w2⟩, Nat.zero_le _, Nat.zero_le _, by decide, Or.inl rfl, ⟨Nat.zero_le _, fun j hj => absurd hj (List.not_mem_nil)⟩, Nat.zero_le _, Nat.zero_le _, Nat.zero_le _⟩
      · exact ⟨List.nodup_nil, fun k hk => absurd hk List.not_mem_nil⟩
      · exact ⟨List.nodup_nil, fun k hk => absurd hk List.not_mem_nil⟩
      · exact ⟨List.nodup_nil, fun k hk => absurd hk List.not_mem_nil⟩
      · intro r s k hr hs hk
        exfalso
        revert hk
        match r, hr with
        | 0, _ => exact List.not_mem_nil
        | 1, _ => exact List.not_mem_nil
        | 2, _ => exact List.not_mem_nil
    · refine ⟨k2, ⟨?_, ?_, ?_, fun k hk => ⟨?_, fun _ => ?_⟩, fun k hk => ?_⟩, ⟨rfl, rfl, rfl, rfl⟩, ⟨0, by decide, rfl, rfl, fun i hi => absurd hi (Nat.not_lt_zero i)⟩, ⟨rfl, rfl, rfl, rfl, rfl, rfl⟩, rfl, rfl⟩
      · exact lt3 rfl rfl rfl
      · exact lt3 rfl rfl rfl
      · intro r i hr hi
        exfalso
        revert hi
        match r, hr with
        | 0, _ => exact Nat.not_lt_zero i
        | 1, _ => exact Nat.not_lt_zero i
        | 2, _ => exact Nat.not_lt_zero i
      · exact lt3 (fun h => absurd h List.not_mem_nil) (fun h => absurd h List.not_mem_nil) (fun h => absurd h List.not_mem_nil)
      · show va_up (va_up gz 4 (fl 100 (-1 : Int32) (gz 4))) 5 (fl 100 (1 : Int32) ((va_up gz 4 (fl 100 (-1 : Int32) (gz 4))) 5)) 4 k = -1
        rw [up_n (by decide), up_s, fl_i hk]
      · show va_up (va_up gz 4 (fl 100 (-1 : Int32) (gz 4))) 5 (fl 100 (1 : Int32) ((va_up gz 4 (fl 100 (-1 : Int32) (gz 4))) 5)) 5 k = nI 1
        rw [up_s, fl_i hk]; rfl
    · show RX D C _ z
      refine ⟨⟨fun r k hr hk => ?_, fun w k hw hk => ?_, ?_, ?_, ?_, fun r c hr hc => ?_, fun b hb => ?_, ?_, ?_⟩, fun k hk => ⟨0, ?_, Nat.zero_le _, Nat.zero_le _⟩, ⟨?_, ?_, fun k hk => ?_⟩, ⟨⟨?_, ?_, ?_⟩, ⟨?_, ?_⟩, ⟨?_, ?_, ?_, ?_⟩, ⟨?_, ?_, ?_⟩, ?_, fun i hi => absurd hi (Nat.not_lt_zero i)⟩⟩
      · rw [zo _ (by omega) (by omega) (by omega) (by omega) (by omega) (by omega), y3 _ (by omega), hx, ov_in (by omega) (by omega)]
        show nI (P0 ((100 * r + k) / 100) ((100 * r + k) % 100)) = nI (P0 r k)
        rw [show (100 * r + k) / 100 = r by omega, show (100 * r + k) % 100 = k by omega]
      · rw [zo _ (by omega) (by omega) (by omega) (by omega) (by omega) (by omega)]
        show y (400 + 100 * w + k) = nI (D0 w k)
        by_cases e : w = 0
        · subst e
          exact (y2 k hk).1
        · have e : w = 1 := by omega
          subst e
          exact (y2 k hk).2.1
      · rw [hz, ud_n (by decide), ud_n (by decide), ud_n (by decide), ud_n (by decide), ud_n (by decide), ud_s]; rfl
      · exact z0 _ (by omega) (by omega) (by omega) (by omega) (by omega) (by omega) (by omega)
      · rw [hz, ud_n (by decide), ud_n (by decide), ud_n (by decide), ud_n (by decide), ud_s]; rfl
      · exact z0 _ (by omega) (by omega) (by omega) (by omega) (by omega) (by omega) (by omega)
      · exact z0 _ (by omega) (by omega) (by omega) (by omega) (by omega) (by omega) (by omega)
      · exact z0 _ (by omega) (by omega) (by omega) (by omega) (by omega) (by omega) (by omega)
      · exact z0 _ (by omega) (by omega) (by omega) (by omega) (by omega) (by omega) (by omega)
      · exact z0 _ (by omega) (by omega) (by omega) (by omega) (by omega) (by omega) (by omega)
      · exact lt3 (z0 _ (by omega) (by omega) (by omega) (by omega) (by omega) (by omega) (by omega)) (z0 _ (by omega) (by omega) (by omega) (by omega) (by omega) (by omega) (by omega)) (z0 _ (by omega) (by omega) (by omega) (by omega) (by omega) (by omega) (by omega))
      · intro r i hr hi
        exfalso
        revert hi
        match r, hr with
        | 0, _ => exact Nat.not_lt_zero i
        | 1, _ => exact Nat.not_lt_zero i
        | 2, _ => exact Nat.not_lt_zero i
      · rw [zo _ (by omega) (by omega) (by omega) (by omega) (by omega) (by omega)]
        exact (y2 k hk).2.2
      · exact z0 _ (by omega) (by omega) (by omega) (by omega) (by omega) (by omega) (by omega)
      · exact z0 _ (by omega) (by omega) (by omega) (by omega) (by omega) (by omega) (by omega)
      · rw [hz, ud_n (by decide), ud_n (by decide), ud_n (by decide), ud_s]
      · rw [hz, ud_n (by decide), ud_s]
      · rw [hz, ud_s]
      · exact z0 _ (by omega) (by omega) (by omega) (by omega) (by omega) (by omega) (by omega)
      · exact z0 _ (by omega) (by omega) (by omega) (by omega) (by omega) (by omega) (by omega)
      · exact z0 _ (by omega) (by omega) (by omega) (by omega) (by omega) (by omega) (by omega)
      · rw [hz, ud_n (by decide), ud_n (by decide), ud_s]; rfl
      · exact z0 _ (by omega) (by omega) (by omega) (by omega) (by omega) (by omega) (by omega)
      · exact z0 _ (by omega) (by omega) (by omega) (by omega) (by omega) (by omega) (by omega)
      · exact z0 _ (by omega) (by omega) (by omega) (by omega) (by omega) (by omega) (by omega)
      · exact z0 _ (by omega) (by omega) (by omega) (by omega) (by omega) (by omega) (by omega)
    · exact ⟨rfl, rfl, rfl, rfl⟩
    · intro r hr
      refine Or.inr ⟨?_, rfl⟩
      show ¬ (0 : Int32) = 1
      decide
    · exact ⟨Nat.zero_le _, rfl, fun i hi => absurd hi (Nat.not_lt_zero i), rfl, fun i hi => absurd hi (Nat.not_lt_zero i)⟩
    · refine ⟨fun i hi => ?_, fun k hk => ?_⟩
      · match i, hi with
        | 0, _ => rfl
        | 1, _ => rfl
        | 2, _ => rfl
        | 3, _ => rfl
        | 4, _ => rfl
      · show va_up (va_up gz 4 (fl 100 (-1 : Int32) (gz 4))) 5 (fl 100 (1 : Int32) ((va_up gz 4 (fl 100 (-1 : Int32) (gz 4))) 5)) 5 k = nI 1
        rw [up_s, fl_i hk]; rfl
