theorem uS_le {Z : Nat → Nat} (hZ : ∀ k, k < 100 → 1 ≤ Z k ∧ Z k ≤ 20) : ∀ l : List Nat, (∀ k, k ∈ l → k < 100) → uS Z l ≤ 20 * l.length := by
  intro l
  induction l with
  | nil => intro _; exact Nat.le_refl 0
  | cons a l ih =>
    intro hh
    have h1 := ih (fun k hk => hh k (by simp [hk]))
    have h2 := (hZ a (hh a (by simp))).2
    show Z a + uS Z l ≤ 20 * (l.length + 1)
    omega
theorem okL.us {R : Nat} {L : Nat → List Nat} {Z : Nat → Nat} (h : okL R L) (hZ : ∀ k, k < 100 → 1 ≤ Z k ∧ Z k ≤ 20) {r : Nat} (hr : r < R) : uS Z (L r) ≤ 2000 := by
  have h1 := h.len hr
  have h2 := uS_le hZ (L r) (h.1 r hr).2
  omega
theorem RW.congr {R : Nat} {L M : Nat → List Nat} {Z : Nat → Nat} {g : Sg} (h : RW R L Z g) (e : ∀ r, r < R → L r = M r) : RW R M Z g := by
  obtain ⟨c1, c2, c3, c4, c5⟩ := h
  refine ⟨fun q hq => ?_, fun q hq => ?_, fun q i hq hi => ?_, fun j hj => ⟨fun q hq hjq => ?_, fun hj2 => ?_⟩, c5⟩
  · rw [← e q hq]; exact c1 q hq
  · rw [← e q hq]; exact c2 q hq
  · rw [← e q hq] at hi ⊢; exact c3 q i hq hi
  · rw [← e q hq] at hjq; exact (c4 j hj).1 q hq hjq
  · exact (c4 j hj).2 (fun q hq => by rw [e q hq]; exact hj2 q hq)
theorem pr_app {R : Nat} {L : Nat → List Nat} {Z : Nat → Nat} {g : Sg} {r k : Nat} (hR : R < 6) (hr : r < R) (hL : okL R L) (hZ : ∀ k, k < 100 → 1 ≤ Z k ∧ Z k ≤ 20) (h : RW R L Z g) (hk : k < 100) (hn : ∀ q, q < R → k ∉ L q) : ∃ g2, f5_append R (nI r) (nI k) g = some g2 ∧ RW R (appL L r k) Z g2 := by
  have hlen := hL.lt hr hk (hn r hr)
  have hus := hL.us hZ hr
  have hzk := hZ k hk
  obtain ⟨c1, c2, c3, c4, c5⟩ := h
  have e1 := c1 r hr
  have e2 := c2 r hr
  have e5 := c5 k hk
  unfold f5_append
  simp (disch := omega) only [rd_n, ck_n, wr_n, cl_n, st_e, b2_e, bd_e, ltp, lep, eqp, m1p, m1l, m1e, m1a, nI_add, pk_sub, pk_mul, dvp, nzp, up_s, up_x, up_01, if_true, if_false, Nat.not_lt_zero, Nat.zero_add, z_0, z_1, z_2, z_3, z_4, z_5, z_10, z_11, z_15, z_20, z_30, z_63, z_64, z_99, z_100, z_127, z_128, z_200, z_256, z_300, z_400, z_500, z_600, z_601, z_602, z_603, z_604, z_605, z_606, z_862, z_990, z_1000, z_1090, z_1390, z_1393, z_1394, z_1395, z_1396, z_1397, z_1398, z_1399, z_1400, z_1401, z_1402, z_1403, z_1404, z_1405, z_1705, z_1805, z_7220, e1, e2, e5, up_n, if_pos hlen]
  refine ⟨_, rfl, fun q hq => ?_, fun q hq => ?_, fun q i hq hi => ?_, fun j hj => ⟨fun q hq hjq => ?_, fun hj2 => ?_⟩, fun j hj => ?_⟩
  · rw [up_n (by decide), up_n (by decide), up_s]
    by_cases e : q = r
    · subst e
      simp only [ud_s, appL, up_s, List.length_append, List.length_singleton]
    · rw [ud_n e, appL, up_n e]
      exact c1 q hq
  · rw [up_n (by decide), up_s]
    by_cases e : q = r
    · subst e
      simp only [ud_s, appL, up_s, uS_app]
      rfl
    · rw [ud_n e, appL, up_n e]
      exact c2 q hq
  · rw [up_n (by omega), up_n (by omega), up_n (by omega)]
    by_cases e : q = r
    · subst e
      simp only [appL, up_s, List.length_append, List.length_singleton] at hi ⊢
      by_cases e2 : i = (L q).length
      · subst e2
        rw [ud_s, gt_ae]
      · rw [ud_n e2, gt_al (by omega)]
        exact c3 q i hq (by omega)
    · rw [appL, up_n e] at hi ⊢
      rw [up_n (by omega)]
      exact c3 q i hq hi
  · rw [up_s]
    by_cases e : j = k
    · subst e
      rw [ud_s]
      congr 1
      by_cases e2 : q = r
      · exact e2.symm
      · rw [appL, up_n e2] at hjq
        exact absurd hjq (hn q hq)
    · rw [ud_n e]
      refine (c4 j hj).1 q hq ?_
      by_cases e2 : q = r
      · subst e2
        simp only [appL, up_s, List.mem_append, List.mem_singleton] at hjq
        exact hjq.resolve_right e
      · rw [appL, up_n e2] at hjq
        exact hjq
  · rw [up_s]
    by_cases e : j = k
    · subst e
      exact absurd (by simp [appL, up_s]) (hj2 r hr)
    · rw [ud_n e]
      refine (c4 j hj).2 (fun q hq hh => hj2 q hq ?_)
      by_cases e2 : q = r
      · subst e2
        simp [appL, up_s, hh]
      · rw [appL, up_n e2]
        exact hh
  · rw [up_n (by decide), up_n (by decide), up_n (by decide), up_n (by omega)]
    exact c5 j hj
theorem pr_mov {R : Nat} {L : Nat → List Nat} {Z : Nat → Nat} {g : Sg} {r k : Nat} (hR : R < 6) (hr : r < R) (hL : okL R L) (hZ : ∀ k, k < 100 → 1 ≤ Z k ∧ Z k ≤ 20) (h : RW R L Z g) (hk : k < 100) : ∃ g2, f5_moveToLast R (nI r) (nI k) g = some g2 ∧ RW R (movL L r k) Z g2 := by
  obtain ⟨g1, e1, e2⟩ := pr_take hR hL hZ h hk
  obtain ⟨g2, e3, e4⟩ := pr_app hR hr (ok_out hL k) hZ e2 hk (fun q hq => out_nm hL hq)
  refine ⟨g2, ?_, e4⟩
  unfold f5_moveToLast
  simp (disch := omega) only [rd_n, ck_n, wr_n, cl_n, st_e, b2_e, bd_e, ltp, lep, eqp, m1p, m1l, m1e, m1a, nI_add, pk_sub, pk_mul, dvp, nzp, up_s, up_x, up_01, if_true, if_false, Nat.not_lt_zero, Nat.zero_add, z_0, z_1, z_2, z_3, z_4, z_5, z_10, z_11, z_15, z_20, z_30, z_63, z_64, z_99, z_100, z_127, z_128, z_200, z_256, z_300, z_400, z_500, z_600, z_601, z_602, z_603, z_604, z_605, z_606, z_862, z_990, z_1000, z_1090, z_1390, z_1393, z_1394, z_1395, z_1396, z_1397, z_1398, z_1399, z_1400, z_1401, z_1402, z_1403, z_1404, z_1405, z_1705, z_1805, z_7220, e1, e3]
theorem pr_key {R : Nat} {L : Nat → List Nat} {Z : Nat → Nat} {g : Sg} {r i : Nat} (hR : R < 6) (hr : r < R) (hL : okL R L) (h : RW R L Z g) (hi : i < 1000000) : f5_keyAt R g (nI r) (nI i) = some (if i < (L r).length then nI (gt (L r) i) else -1) := by
  have hlen := hL.len hr
  have e1 := h.1 r hr
  unfold f5_keyAt
  by_cases hh : i < (L r).length
  · simp (disch := omega) only [rd_n, ck_n, wr_n, cl_n, st_e, b2_e, bd_e, ltp, lep, eqp, m1p, m1l, m1e, m1a, nI_add, pk_sub, pk_mul, dvp, nzp, up_s, up_x, up_01, if_true, if_false, Nat.not_lt_zero, Nat.zero_add, z_0, z_1, z_2, z_3, z_4, z_5, z_10, z_11, z_15, z_20, z_30, z_63, z_64, z_99, z_100, z_127, z_128, z_200, z_256, z_300, z_400, z_500, z_600, z_601, z_602, z_603, z_604, z_605, z_606, z_862, z_990, z_1000, z_1090, z_1390, z_1393, z_1394, z_1395, z_1396, z_1397, z_1398, z_1399, z_1400, z_1401, z_1402, z_1403, z_1404, z_1405, z_1705, z_1805, z_7220, e1, if_neg (show ¬ (L r).length ≤ i by omega), h.2.2.1 r i hr hh, if_pos hh]
  · simp (disch := omega) only [rd_n, ck_n, wr_n, cl_n, st_e, b2_e, bd_e, ltp, lep, eqp, m1p, m1l, m1e, m1a, nI_add, pk_sub, pk_mul, dvp, nzp, up_s, up_x, up_01, if_true, if_false, Nat.not_lt_zero, Nat.zero_add, z_0, z_1, z_2, z_3, z_4, z_5, z_10, z_11, z_15, z_20, z_30, z_63, z_64, z_99, z_100, z_127, z_128, z_200, z_256, z_300, z_400, z_500, z_600, z_601, z_602, z_603, z_604, z_605, z_606, z_862, z_990, z_1000, z_1090, z_1390, z_1393, z_1394, z_1395, z_1396, z_1397, z_1398, z_1399, z_1400, z_1401, z_1402, z_1403, z_1404, z_1405, z_1705, z_1805, z_7220, e1, if_pos (show (L r).length ≤ i by omega), if_neg hh]
/-! the three parts of the cache -/
def L3 (w p q : List Nat) : Nat → List Nat
  | 0 => w
  | 1 => p
  | 2 => q
  | _ => []
def ok3 (w p q : List Nat) : Prop := (w ++ (p ++ q)).Nodup ∧ ∀ k, k ∈ w ++ (p ++ q) → k < 100
theorem ok3.l {w p q : List Nat} (h : ok3 w p q) : okL 3 (L3 w p q) := by
  obtain ⟨h1, h2⟩ := h
  obtain ⟨n1, n2, n3⟩ := List.nodup_append.mp h1
  obtain ⟨n4, n5, n6⟩ := List.nodup_append.mp n2
  have a0 : ∀ k, k ∈ w → k ∉ p ∧ k ∉ q := fun k hk => ⟨fun h => n3 k hk k (by simp [h]) rfl, fun h => n3 k hk k (by simp [h]) rfl⟩
  have a1 : ∀ k, k ∈ p → k ∉ q := fun k hk h => n6 k hk k h rfl
  refine ⟨fun r hr => ?_, fun r s k hr hs => ?_⟩
  · match r, hr with
    | 0, _ => exact ⟨n1, fun k hk => h2 k (by simp [show k ∈ w from hk])⟩
    | 1, _ => exact ⟨n4, fun k hk => h2 k (by simp [show k ∈ p from hk])⟩
    | 2, _ => exact ⟨n5, fun k hk => h2 k (by simp [show k ∈ q from hk])⟩
  · match r, hr, s, hs with
    | 0, _, 0, _ => exact fun _ _ => rfl
    | 0, _, 1, _ => exact fun x y => absurd y (a0 k x).1
    | 0, _, 2, _ => exact fun x y => absurd y (a0 k x).2
    | 1, _, 0, _ => exact fun x y => absurd x (a0 k y).1
    | 1, _, 1, _ => exact fun _ _ => rfl
    | 1, _, 2, _ => exact fun x y => absurd y (a1 k x)
    | 2, _, 0, _ => exact fun x y => absurd x (a0 k y).2
    | 2, _, 1, _ => exact fun x y => absurd x (a1 k y)
    | 2, _, 2, _ => exact fun _ _ => rfl
theorem lt3 {P : Nat → Prop} (h0 : P 0) (h1 : P 1) (h2 : P 2) : ∀ r, r < 3 → P r := by
  intro r hr
  match r, hr with
  | 0, _ => exact h0
  | 1, _ => exact h1
  | 2, _ => exact h2
