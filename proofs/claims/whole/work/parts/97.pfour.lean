/-! the reference's four rows -/
theorem up_ab {α : Type} {f : Nat → α} {v : α} : va_up f 10 v 11 = f 11 := up_n (by decide)
theorem up_ba {α : Type} {f : Nat → α} {v : α} : va_up f 11 v 10 = f 10 := up_n (by decide)
def FM (L : Nat → List Nat) (g : Sg) : Prop := (∀ r, r < 4 → g 11 r = nI (L r).length) ∧ ∀ r i, r < 4 → i < (L r).length → g 10 (64 * r + i) = nI (gt (L r) i)
def FF (g g2 : Sg) : Prop := ∀ o, o ≠ 10 → o ≠ 11 → g2 o = g o
theorem FF.r {g : Sg} : FF g g := fun _ _ _ => rfl
theorem FF.t {a b c : Sg} (h1 : FF a b) (h2 : FF b c) : FF a c := fun o ho ho2 => (h2 o ho ho2).trans (h1 o ho ho2)
theorem FM.congr {L N : Nat → List Nat} {g : Sg} (h : FM L g) (e : ∀ r, r < 4 → L r = N r) : FM N g := ⟨fun r hr => by rw [← e r hr]; exact h.1 r hr, fun r i hr hi => by rw [← e r hr] at hi ⊢; exact h.2 r i hr hi⟩
theorem FM.fr {L : Nat → List Nat} {g g2 : Sg} (h : FM L g) (e1 : g2 10 = g 10) (e2 : g2 11 = g 11) : FM L g2 := ⟨fun r hr => by rw [e2]; exact h.1 r hr, fun r i hr hi => by rw [e1]; exact h.2 r i hr hi⟩
theorem pj_idxL {L : Nat → List Nat} {g : Sg} {r k : Nat} (hr : r < 4) (hl : (L r).length ≤ 63) (hb : ∀ k, k ∈ L r → k < 100) (h : FM L g) (hk : k < 100) : ∀ (n i : Nat), i ≤ (L r).length → (L r).length - i < n → (∀ p, i ≤ p → p < (L r).length → gt (L r) p = k → (∀ j, i ≤ j → j < p → gt (L r) j ≠ k) → f11_indexIn_l2 g n (nI r) (nI k) (nI i) = some (nI p)) ∧ ((∀ j, i ≤ j → j < (L r).length → gt (L r) j ≠ k) → f11_indexIn_l2 g n (nI r) (nI k) (nI i) = some (-1)) := by
  intro n
  induction n with
  | zero => intro i h1 h2; omega
  | succ n ih =>
    intro i h1 h2
    show (∀ p, i ≤ p → p < (L r).length → gt (L r) p = k → (∀ j, i ≤ j → j < p → gt (L r) j ≠ k) → f11_indexIn_b2 g (f11_indexIn_l2 g n) (nI r) (nI k) (nI i) = some (nI p)) ∧ ((∀ j, i ≤ j → j < (L r).length → gt (L r) j ≠ k) → f11_indexIn_b2 g (f11_indexIn_l2 g n) (nI r) (nI k) (nI i) = some (-1))
    unfold f11_indexIn_b2
    by_cases hi : (L r).length ≤ i
    · refine ⟨fun p hp1 hp2 => by omega, fun _ => ?_⟩
      simp (disch := omega) only [rd_n, ck_n, wr_n, cl_n, st_e, b2_e, bd_e, ltp, lep, eqp, m1p, m1l, m1e, m1a, nI_add, pk_sub, pk_mul, dvp, nzp, up_s, up_x, up_01, if_true, if_false, Nat.not_lt_zero, Nat.zero_add, z_0, z_1, z_2, z_3, z_4, z_5, z_10, z_11, z_15, z_20, z_30, z_63, z_64, z_99, z_100, z_127, z_128, z_200, z_256, z_300, z_400, z_500, z_600, z_601, z_602, z_603, z_604, z_605, z_606, z_862, z_990, z_1000, z_1090, z_1390, z_1393, z_1394, z_1395, z_1396, z_1397, z_1398, z_1399, z_1400, z_1401, z_1402, z_1403, z_1404, z_1405, z_1705, z_1805, z_7220, h.1 r hr, if_pos hi]
    · have hi : i < (L r).length := by omega
      have hg := hb _ (gt_mem hi)
      obtain ⟨i1, i2⟩ := ih (i + 1) (by omega) (by omega)
      simp (disch := omega) only [rd_n, ck_n, wr_n, cl_n, st_e, b2_e, bd_e, ltp, lep, eqp, m1p, m1l, m1e, m1a, nI_add, pk_sub, pk_mul, dvp, nzp, up_s, up_x, up_01, if_true, if_false, Nat.not_lt_zero, Nat.zero_add, z_0, z_1, z_2, z_3, z_4, z_5, z_10, z_11, z_15, z_20, z_30, z_63, z_64, z_99, z_100, z_127, z_128, z_200, z_256, z_300, z_400, z_500, z_600, z_601, z_602, z_603, z_604, z_605, z_606, z_862, z_990, z_1000, z_1090, z_1390, z_1393, z_1394, z_1395, z_1396, z_1397, z_1398, z_1399, z_1400, z_1401, z_1402, z_1403, z_1404, z_1405, z_1705, z_1805, z_7220, h.1 r hr, if_neg (show ¬ (L r).length ≤ i by omega), h.2 r i hr hi]
      refine ⟨fun p hp1 hp2 hp3 hp4 => ?_, fun hn => ?_⟩
      · by_cases e : gt (L r) i = k
        · rw [if_pos e]
          by_cases e2 : i = p
          · rw [e2]
          · exact absurd e (hp4 i (by omega) (by omega))
        · rw [if_neg e]
          have : i ≠ p := fun e2 => e (by rw [e2]; exact hp3)
          exact i1 p (by omega) hp2 hp3 (fun j hj => hp4 j (by omega))
      · rw [if_neg (hn i (by omega) hi)]
        exact i2 (fun j hj => hn j (by omega))
theorem pj_idx {L : Nat → List Nat} {g : Sg} {r k p : Nat} (hr : r < 4) (hl : (L r).length ≤ 63) (hb : ∀ k, k ∈ L r → k < 100) (h : FM L g) (hk : k < 100) (hp : p < (L r).length) (h1 : gt (L r) p = k) (h2 : ∀ j, j < p → gt (L r) j ≠ k) : f11_indexIn g (nI r) (nI k) = some (nI p) :=
  (pj_idxL hr hl hb h hk NF 0 (by omega) (by show _ < 8000; omega)).1 p (by omega) hp h1 (fun j _ hj => h2 j hj)
theorem pj_idxN {L : Nat → List Nat} {g : Sg} {r k : Nat} (hr : r < 4) (hl : (L r).length ≤ 63) (hb : ∀ k, k ∈ L r → k < 100) (h : FM L g) (hk : k < 100) (hn : k ∉ L r) : f11_indexIn g (nI r) (nI k) = some (-1) :=
  (pj_idxL hr hl hb h hk NF 0 (by omega) (by show _ < 8000; omega)).2 (fun j _ hj e => hn (e ▸ gt_mem hj))
theorem pj_join {L : Nat → List Nat} {g : Sg} {r k : Nat} (hr : r < 4) (hl : ∀ q, q < 4 → (L q).length ≤ 63) (h : FM L g) : ∃ g2, f11_join (nI r) (nI k) g = some g2 ∧ FM (appL L r k) g2 ∧ FF g g2 := by
  have e := h.1 r hr
  have hlr := hl r hr
  refine ⟨va_up (va_up g 10 (upd (g 10) (64 * r + (L r).length) (nI k))) 11 (upd (g 11) r (nI ((L r).length + 1))), ?_, ⟨fun q hq => ?_, fun q i hq hi => ?_⟩, fun o h1 h2 => by rw [up_n h2, up_n h1]⟩
  · unfold f11_join
    simp (disch := omega) only [rd_n, ck_n, wr_n, cl_n, st_e, b2_e, bd_e, ltp, lep, eqp, m1p, m1l, m1e, m1a, nI_add, pk_sub, pk_mul, dvp, nzp, up_s, up_x, up_01, if_true, if_false, Nat.not_lt_zero, Nat.zero_add, z_0, z_1, z_2, z_3, z_4, z_5, z_10, z_11, z_15, z_20, z_30, z_63, z_64, z_99, z_100, z_127, z_128, z_200, z_256, z_300, z_400, z_500, z_600, z_601, z_602, z_603, z_604, z_605, z_606, z_862, z_990, z_1000, z_1090, z_1390, z_1393, z_1394, z_1395, z_1396, z_1397, z_1398, z_1399, z_1400, z_1401, z_1402, z_1403, z_1404, z_1405, z_1705, z_1805, z_7220, e, up_ab]
  · rw [up_s]
    by_cases e2 : q = r
    · subst e2
      simp only [ud_s, appL, up_s, List.length_append, List.length_singleton]
    · rw [ud_n e2, appL, up_n e2]
      exact h.1 q hq
  · rw [up_ba, up_s]
    have hlq := hl q hq
    by_cases e2 : q = r
    · subst e2
      simp only [appL, up_s, List.length_append, List.length_singleton] at hi ⊢
      by_cases e3 : i = (L q).length
      · subst e3
        rw [ud_s, gt_ae]
      · rw [ud_n (by omega), gt_al (by omega)]
        exact h.2 q i hq (by omega)
    · rw [appL, up_n e2] at hi ⊢
      rw [ud_n (by omega)]
      exact h.2 q i hq hi
theorem pj_leaveL {L : Nat → List Nat} {g : Sg} {r i : Nat} {v : Int32} (hr : r < 4) (hl : (L r).length ≤ 63) (h : FM L g) (hi : i < (L r).length) : ∀ (n k : Nat), i + 1 ≤ k → k ≤ (L r).length → (L r).length - k < n →
    f11_leave_l17 n (nI r) v (nI k) (va_up g 10 (ov (fun j => g 10 (j + 1)) (64 * r + i) (k - 1 - i) (g 10))) = f11_leave_j60 (nI r) v (va_up g 10 (ov (fun j => g 10 (j + 1)) (64 * r + i) ((L r).length - 1 - i) (g 10))) := by
  have e0 := h.1 r hr
  intro n
  induction n with
  | zero => intro k h1 h2 h3; omega
  | succ n ih =>
    intro k h1 h2 h3
    show f11_leave_b17 (f11_leave_l17 n) (nI r) v (nI k) _ = _
    unfold f11_leave_b17
    by_cases hk : (L r).length ≤ k
    · simp (disch := omega) only [rd_n, ck_n, wr_n, cl_n, st_e, b2_e, bd_e, ltp, lep, eqp, m1p, m1l, m1e, m1a, nI_add, pk_sub, pk_mul, dvp, nzp, up_s, up_x, up_01, if_true, if_false, Nat.not_lt_zero, Nat.zero_add, z_0, z_1, z_2, z_3, z_4, z_5, z_10, z_11, z_15, z_20, z_30, z_63, z_64, z_99, z_100, z_127, z_128, z_200, z_256, z_300, z_400, z_500, z_600, z_601, z_602, z_603, z_604, z_605, z_606, z_862, z_990, z_1000, z_1090, z_1390, z_1393, z_1394, z_1395, z_1396, z_1397, z_1398, z_1399, z_1400, z_1401, z_1402, z_1403, z_1404, z_1405, z_1705, z_1805, z_7220, up_ab, e0, if_pos hk]
      rw [show k = (L r).length by omega]
    · have e := ih (k + 1) (by omega) (by omega) (by omega)
      rw [show k + 1 - 1 - i = (k - 1 - i) + 1 by omega, ← ov_s (v := g 10 (64 * r + k)) (by show _ = g 10 (64 * r + i + (k - 1 - i) + 1); congr 1; omega), show 64 * r + i + (k - 1 - i) = 64 * r + k - 1 by omega] at e
      simp (disch := omega) only [rd_n, ck_n, wr_n, cl_n, st_e, b2_e, bd_e, ltp, lep, eqp, m1p, m1l, m1e, m1a, nI_add, pk_sub, pk_mul, dvp, nzp, up_s, up_x, up_01, if_true, if_false, Nat.not_lt_zero, Nat.zero_add, z_0, z_1, z_2, z_3, z_4, z_5, z_10, z_11, z_15, z_20, z_30, z_63, z_64, z_99, z_100, z_127, z_128, z_200, z_256, z_300, z_400, z_500, z_600, z_601, z_602, z_603, z_604, z_605, z_606, z_862, z_990, z_1000, z_1090, z_1390, z_1393, z_1394, z_1395, z_1396, z_1397, z_1398, z_1399, z_1400, z_1401, z_1402, z_1403, z_1404, z_1405, z_1705, z_1805, z_7220, up_ab, e0, if_neg hk, ov_ge]
      exact e
theorem pj_leave {L : Nat → List Nat} {g : Sg} {r i : Nat} (hr : r < 4) (hl : ∀ q, q < 4 → (L q).length ≤ 63) (h : FM L g) (hi : i < (L r).length) : ∃ g2, f11_leave (nI r) (nI i) g = some (nI (gt (L r) i), g2) ∧ FM (eiL L r i) g2 ∧ FF g g2 := by
  have hlr := hl r hr
  have e := pj_leaveL (v := nI (gt (L r) i)) hr hlr h hi NF (i + 1) (by omega) (by omega) (by show _ < 8000; omega)
  rw [show i + 1 - 1 - i = 0 by omega, ov_0, show va_up g 10 (g 10) = g from up_id _ _] at e
  have e0 := h.1 r hr
  have ek := h.2 r i hr hi
  have hle : ((L r).eraseIdx i).length = (L r).length - 1 := List.length_eraseIdx_of_lt hi
  refine ⟨va_up (va_up g 10 (ov (fun j => g 10 (j + 1)) (64 * r + i) ((L r).length - 1 - i) (g 10))) 11 (upd (g 11) r (nI ((L r).length - 1))), ?_, ⟨fun q hq => ?_, fun q j hq hj => ?_⟩, fun o h1 h2 => by rw [up_n h2, up_n h1]⟩
  · unfold f11_leave
    simp (disch := omega) only [rd_n, ck_n, wr_n, cl_n, st_e, b2_e, bd_e, ltp, lep, eqp, m1p, m1l, m1e, m1a, nI_add, pk_sub, pk_mul, dvp, nzp, up_s, up_x, up_01, if_true, if_false, Nat.not_lt_zero, Nat.zero_add, z_0, z_1, z_2, z_3, z_4, z_5, z_10, z_11, z_15, z_20, z_30, z_63, z_64, z_99, z_100, z_127, z_128, z_200, z_256, z_300, z_400, z_500, z_600, z_601, z_602, z_603, z_604, z_605, z_606, z_862, z_990, z_1000, z_1090, z_1390, z_1393, z_1394, z_1395, z_1396, z_1397, z_1398, z_1399, z_1400, z_1401, z_1402, z_1403, z_1404, z_1405, z_1705, z_1805, z_7220, ek]
    rw [e]
    unfold f11_leave_j60
    simp (disch := omega) only [rd_n, ck_n, wr_n, cl_n, st_e, b2_e, bd_e, ltp, lep, eqp, m1p, m1l, m1e, m1a, nI_add, pk_sub, pk_mul, dvp, nzp, up_s, up_x, up_01, if_true, if_false, Nat.not_lt_zero, Nat.zero_add, z_0, z_1, z_2, z_3, z_4, z_5, z_10, z_11, z_15, z_20, z_30, z_63, z_64, z_99, z_100, z_127, z_128, z_200, z_256, z_300, z_400, z_500, z_600, z_601, z_602, z_603, z_604, z_605, z_606, z_862, z_990, z_1000, z_1090, z_1390, z_1393, z_1394, z_1395, z_1396, z_1397, z_1398, z_1399, z_1400, z_1401, z_1402, z_1403, z_1404, z_1405, z_1705, z_1805, z_7220, up_ab, e0]
  · rw [up_s]
    by_cases e2 : q = r
    · subst e2
      rw [ud_s, eiL, up_s, hle]
    · rw [ud_n e2, eiL, up_n e2]
      exact h.1 q hq
  · rw [up_ba, up_s]
    have hlq := hl q hq
    by_cases e2 : q = r
    · subst e2
      rw [eiL, up_s] at hj ⊢
      rw [hle] at hj
      rw [gt_ei]
      by_cases hji : j < i
      · rw [ov_lt (by omega), if_pos hji]
        exact h.2 q j hq (by omega)
      · rw [ov_in (by omega) (by omega), if_neg hji]
        exact h.2 q (j + 1) hq (by omega)
    · rw [eiL, up_n e2] at hj ⊢
      rw [ov_o (by omega)]
      exact h.2 q j hq hj
/-- the reference takes the key k out -/
theorem pj_out {L : Nat → List Nat} {g : Sg} {r k : Nat} (hr : r < 4) (hL : okL 4 L) (hl : ∀ q, q < 4 → (L q).length ≤ 63) (h : FM L g) (hk : k ∈ L r) : ∃ i g2, f11_indexIn g (nI r) (nI k) = some (nI i) ∧ i < 63 ∧ f11_leave (nI r) (nI i) g = some (nI k, g2) ∧ FM (outL L k) g2 ∧ FF g g2 := by
  have hk100 := (hL.1 r hr).2 k hk
  obtain ⟨i, hi, hg, hf, her⟩ := pos_ex _ hk
  obtain ⟨g2, a1, a2, a3⟩ := pj_leave hr hl h hi
  have hlr := hl r hr
  rw [hg] at a1
  refine ⟨i, g2, pj_idx hr hlr (hL.1 r hr).2 h hk100 hi hg hf, by omega, a1, a2.congr (fun q hq => ?_), a3⟩
  unfold eiL outL
  by_cases e : q = r
  · subst e
    rw [up_s, her]
  · rw [up_n e, er_n (fun hk2 => e (hL.2 q r k hq hr hk2 hk))]
theorem pj_out0 {L : Nat → List Nat} {g : Sg} {r : Nat} (hr : r < 4) (hL : okL 4 L) (hl : ∀ q, q < 4 → (L q).length ≤ 63) (h : FM L g) (h0 : 0 < (L r).length) : ∃ g2, f11_leave (nI r) (nI 0) g = some (nI (gt (L r) 0), g2) ∧ FM (outL L (gt (L r) 0)) g2 ∧ FF g g2 := by
  have hk := gt_mem h0
  obtain ⟨i, hi, hg, hf, her⟩ := pos_ex _ hk
  have i0 : i = 0 := by
    by_cases e : i = 0
    · exact e
    · exact absurd rfl (hf 0 (by omega))
  subst i0
  obtain ⟨g2, a1, a2, a3⟩ := pj_leave hr hl h h0
  refine ⟨g2, a1, a2.congr (fun q hq => ?_), a3⟩
  unfold eiL outL
  by_cases e : q = r
  · subst e
    rw [up_s, her]
  · rw [up_n e, er_n (fun hk2 => e (hL.2 q r _ hq hr hk2 hk))]
/-! lengths -/
theorem out_len {L : Nat → List Nat} {R r k : Nat} (hL : okL R L) (hr : r < R) (hk : k ∈ L r) : (outL L k r).length + 1 = (L r).length ∧ ∀ q, q < R → q ≠ r → outL L k q = L q := by
  refine ⟨?_, fun q hq e => er_n (fun hk2 => e (hL.2 q r k hq hr hk2 hk))⟩
  show ((L r).erase k).length + 1 = _
  rw [List.length_erase_of_mem hk]
  have : 0 < (L r).length := List.length_pos_of_mem hk
  omega
theorem out_len0 {L : Nat → List Nat} {R k : Nat} (hn : ∀ q, q < R → k ∉ L q) : ∀ q, q < R → outL L k q = L q := fun q hq => er_n (hn q hq)
theorem app_len {L : Nat → List Nat} {r k : Nat} : (appL L r k r).length = (L r).length + 1 ∧ ∀ q, q ≠ r → appL L r k q = L q := by
  unfold appL
  exact ⟨by rw [up_s, List.length_append]; rfl, fun q hq => up_n hq⟩
theorem out_sub {L : Nat → List Nat} {k j r : Nat} (h : j ∈ outL L k r) : j ∈ L r := List.mem_of_mem_erase h
/-- the four lengths -/
def l4 (L : Nat → List Nat) (t u v x : Nat) : Prop := (L 0).length = t ∧ (L 1).length = u ∧ (L 2).length = v ∧ (L 3).length = x
theorem lt4 {P : Nat → Prop} (h0 : P 0) (h1 : P 1) (h2 : P 2) (h3 : P 3) : ∀ r, r < 4 → P r := by
  intro r hr
  match r, hr with
  | 0, _ => exact h0
  | 1, _ => exact h1
  | 2, _ => exact h2
  | 3, _ => exact h3
/-! moving the first of a row -/
def Z1 : Nat → Nat := fun _ => 1
theorem Z1_ok : ∀ k, k < 100 → 1 ≤ Z1 k ∧ Z1 k ≤ 20 := fun _ _ => ⟨Nat.le_refl 1, show 1 ≤ 20 by decide⟩
theorem pf_mv {L : Nat → List Nat} {c : Sg} {a b : Nat} (ha : a < 4) (hb : b < 4) (hL : okL 4 L) (h : RW 4 L Z1 c) (h0 : 0 < (L a).length) : ∃ c2, f5_moveFirst 4 (nI a) (nI b) c = some c2 ∧ RW 4 (movL L b (gt (L a) 0)) Z1 c2 := by
  have hk := (hL.1 a ha).2 _ (gt_mem h0)
  obtain ⟨c2, e1, e2⟩ := pr_mov (by decide) hb hL Z1_ok h hk
  refine ⟨c2, ?_, e2⟩
  unfold f5_moveToLast at e1
  unfold f5_moveFirst
  rw [z_0, pr_key (by decide) ha hL h (by omega), bd_e, if_pos h0, if_neg (nI_nm1 (by omega))]
  exact e1
theorem pf_mv0 {L : Nat → List Nat} {c : Sg} {a b : Nat} (ha : a < 4) (hL : okL 4 L) (h : RW 4 L Z1 c) (h0 : (L a).length = 0) : f5_moveFirst 4 (nI a) (nI b) c = some c := by
  unfold f5_moveFirst
  rw [z_0, pr_key (by decide) ha hL h (by omega), bd_e, if_neg (show ¬ 0 < (L a).length by omega), if_pos rfl]
theorem pf_dr {L : Nat → List Nat} {c : Sg} {a : Nat} (ha : a < 4) (hL : okL 4 L) (h : RW 4 L Z1 c) (h0 : 0 < (L a).length) : ∃ c2, f5_dropFirst 4 (nI a) c = some c2 ∧ RW 4 (outL L (gt (L a) 0)) Z1 c2 := by
  have hk := (hL.1 a ha).2 _ (gt_mem h0)
  obtain ⟨c2, e1, e2⟩ := pr_take (by decide) hL Z1_ok h hk
  refine ⟨c2, ?_, e2⟩
  unfold f5_dropFirst
  rw [z_0, pr_key (by decide) ha hL h (by omega), bd_e, if_pos h0, if_neg (nI_nm1 (by omega)), e1]
  rfl
