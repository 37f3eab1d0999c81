/-! the next use of a key -/
def fuN (T : List Nat) (k : Nat) : Nat → Nat → Nat
  | 0, _ => 300
  | m + 1, i => if gt T i = k then i else fuN T k m (i + 1)
def fu (T : List Nat) (e k i : Nat) : Nat := fuN T k (e - i) i
theorem fu_e {T : List Nat} {e k i : Nat} (h : e ≤ i) : fu T e k i = 300 := by
  unfold fu
  rw [show e - i = 0 by omega]
  rfl
theorem fu_s {T : List Nat} {e k i : Nat} (h : i < e) : fu T e k i = if gt T i = k then i else fu T e k (i + 1) := by
  unfold fu
  rw [show e - i = (e - (i + 1)) + 1 by omega]
  rfl
theorem fu_ne {T : List Nat} {e k i : Nat} (h : i < e) (hk : ¬ gt T i = k) : fu T e k i = fu T e k (i + 1) := by
  rw [fu_s h, if_neg hk]
theorem fu_le {T : List Nat} {k : Nat} : ∀ m i, i + m ≤ 300 → fuN T k m i ≤ 300
  | 0, _, _ => Nat.le_refl _
  | m + 1, i, h => by
    show (if gt T i = k then i else fuN T k m (i + 1)) ≤ 300
    split
    · omega
    · exact fu_le m (i + 1) (by omega)
theorem fu_300 {T : List Nat} {e k i : Nat} (he : e ≤ 300) : fu T e k i ≤ 300 := by
  by_cases h : e ≤ i
  · rw [fu_e h]; exact Nat.le_refl _
  · exact fu_le _ _ (by omega)
def fx (v : Nat) : Nat := if v = 300 then 1000 else v
theorem pm_againL {T : List Nat} {g : Sg} {e k : Nat} (he : e ≤ T.length) (hT : T.length ≤ 300) (hk : k < 100) (hb : ∀ j, j ∈ T → j < 100) (h : ∀ i, i < T.length → g 1 (1405 + i) = nI (gt T i)) : ∀ (m i n : Nat), e - i = m → m < n → i ≤ 301 → f11_again_l5 g n (nI k) (nI e) (nI i) = some (nI (fx (fu T e k i))) := by
  intro m
  induction m with
  | zero =>
    intro i n e1 hn hi
    obtain ⟨n, rfl⟩ : ∃ k, n = k + 1 := ⟨n - 1, by omega⟩
    show f11_again_b5 g (f11_again_l5 g n) _ _ _ = _
    unfold f11_again_b5
    rw [if_pos (show nI e ≤ nI i by rw [lep (by omega) (by omega)]; omega), fu_e (by omega)]
    rfl
  | succ m ih =>
    intro i n e1 hn hi
    obtain ⟨n, rfl⟩ : ∃ k, n = k + 1 := ⟨n - 1, by omega⟩
    have hg := hb _ (gt_mem (l := T) (j := i) (by omega))
    show f11_again_b5 g (f11_again_l5 g n) _ _ _ = _
    unfold f11_again_b5
    simp (disch := omega) only [rd_n, ck_n, wr_n, cl_n, st_e, b2_e, bd_e, ltp, lep, eqp, m1p, m1l, m1e, m1a, nI_add, pk_sub, pk_mul, dvp, nzp, up_s, up_x, up_01, if_true, if_false, Nat.not_lt_zero, Nat.zero_add, z_0, z_1, z_2, z_3, z_4, z_5, z_10, z_11, z_15, z_20, z_30, z_63, z_64, z_99, z_100, z_127, z_128, z_200, z_256, z_300, z_400, z_500, z_600, z_601, z_602, z_603, z_604, z_605, z_606, z_862, z_990, z_1000, z_1090, z_1390, z_1393, z_1394, z_1395, z_1396, z_1397, z_1398, z_1399, z_1400, z_1401, z_1402, z_1403, z_1404, z_1405, z_1705, z_1805, z_7220, if_neg (show ¬ e ≤ i by omega), h i (show i < T.length by omega)]
    rw [fu_s (by omega)]
    by_cases e2 : gt T i = k
    · rw [if_pos e2, if_pos e2]
      unfold fx
      rw [if_neg (by omega)]
    · rw [if_neg e2, if_neg e2]
      exact ih (i + 1) n (by omega) (by omega) (by omega)
theorem pm_again {T : List Nat} {g : Sg} {e k i : Nat} (he : e ≤ T.length) (hT : T.length ≤ 300) (hk : k < 100) (hb : ∀ j, j ∈ T → j < 100) (h : ∀ i, i < T.length → g 1 (1405 + i) = nI (gt T i)) (hi : i < e) : f11_again g (nI k) (nI i) (nI e) = some (nI (fx (fu T e k (i + 1)))) := by
  unfold f11_again
  rw [z_1, nI_add]
  exact pm_againL he hT hk hb h (e - (i + 1)) (i + 1) NF rfl (by show _ < 8000; omega) (by omega)
/-! the class looks ahead -/
theorem pp_lookL {T : List Nat} {h : Sg} {e a : Nat} (he : e ≤ T.length) (hT : T.length ≤ 300) (hb : ∀ j, j ∈ T → j < 100) (hG : RG T h) (ha : a ≤ e) : ∀ (m i n : Nat) (S : Ob), i - a = m → a ≤ i → i ≤ e → m < n → (∀ k, k < 100 → S 0 3 k = nI (fu T e k i)) → (∀ j, i ≤ j → j < e → S 0 2 j = nI (fu T e (gt T j) (j + 1))) →
    ∃ S2, f3_lookAhead_l15 h n (nI a) (nI i - nI 1) S = some S2 ∧ (∀ j, a ≤ j → j < e → S2 0 2 j = nI (fu T e (gt T j) (j + 1))) ∧ (∀ t, t ≠ 0 → S2 t = S t) ∧ ∀ o, (o ≠ 2 ∧ o ≠ 3) → S2 0 o = S 0 o := by
  intro m
  induction m with
  | zero =>
    intro i n S e1 h1 h2 hn h3 h4
    obtain ⟨n, rfl⟩ : ∃ k, n = k + 1 := ⟨n - 1, by omega⟩
    have e2 : i = a := by omega
    subst e2
    refine ⟨S, ?_, h4, fun t _ => rfl, fun o _ => rfl⟩
    show f3_lookAhead_b15 h (f3_lookAhead_l15 h n) _ _ _ = _
    unfold f3_lookAhead_b15
    refine if_pos ?_
    by_cases h0 : i = 0
    · subst h0; decide
    · rw [pk_sub (by omega), ltp (by omega) (by omega)]; omega
  | succ m ih =>
    intro i n S e1 h1 h2 hn h3 h4
    obtain ⟨n, rfl⟩ : ∃ k, n = k + 1 := ⟨n - 1, by omega⟩
    obtain ⟨j, rfl⟩ : ∃ j, i = j + 1 := ⟨i - 1, by omega⟩
    have hj : j < T.length := by omega
    have hg := hb _ (gt_mem hj)
    obtain ⟨S2, b1, b2, b3, b4⟩ := ih j n (va_up (va_up S 0 (va_up (S 0) 2 (upd (S 0 2) j (S 0 3 (gt T j))))) 0 (va_up (va_up (S 0) 2 (upd (S 0 2) j (S 0 3 (gt T j)))) 3 (upd (S 0 3) (gt T j) (nI j)))) (by omega) (by omega) (by omega) (by omega) (fun k hk => by
      rw [up_s, up_s, fu_s (by omega)]
      by_cases e2 : gt T j = k
      · rw [if_pos e2, ← e2, ud_s]
      · rw [if_neg e2, ud_n (by omega)]; exact h3 k hk) (fun l hl1 hl2 => by
      rw [up_s, up_n (by decide), up_s]
      by_cases e2 : l = j
      · subst e2
        rw [ud_s]; exact h3 _ hg
      · rw [ud_n e2]; exact h4 l (by omega) hl2)
    refine ⟨S2, ?_, b2, fun t ht => ?_, fun o ho => ?_⟩
    · show f3_lookAhead_b15 h (f3_lookAhead_l15 h n) _ _ _ = _
      unfold f3_lookAhead_b15
      rw [pk_sub (show 1 ≤ j + 1 by omega), Nat.add_sub_cancel, if_neg (show ¬ nI j < nI a by rw [ltp (by omega) (by omega)]; omega), pt_key hT hG hj, bd_e, rd_n hg (by omega), wr_n (by omega) (by omega), cl_n (by omega), wr_n hg (by omega), cl_n (by omega)]
      have e3 : nI j + (-1 : Int32) = nI j - nI 1 := (Int32.sub_eq_add_neg ..).symm
      rw [e3, up_s, up_n (show (3 : Nat) ≠ 2 by decide)]
      exact b1
    · rw [b3 t ht, up_n ht, up_n ht]
    · rw [b4 o ho, up_s, up_n ho.2, up_n ho.1]
theorem pp_look {T : List Nat} {h : Sg} {S : Ob} {e a : Nat} (he : e ≤ T.length) (hT : T.length ≤ 300) (hb : ∀ j, j ∈ T → j < 100) (hG : RG T h) (ha : a ≤ e) : ∃ S2, f3_lookAhead h (nI a) (nI e) S = some S2 ∧ (∀ j, a ≤ j → j < e → S2 0 2 j = nI (fu T e (gt T j) (j + 1))) ∧ (∀ t, t ≠ 0 → S2 t = S t) ∧ ∀ o, (o ≠ 2 ∧ o ≠ 3) → S2 0 o = S 0 o := by
  obtain ⟨S2, b1, b2, b3, b4⟩ := pp_lookL he hT hb hG ha (e - a) e NF (va_up S 0 (va_up (S 0) 3 (fl 100 (300 : Int32) (S 0 3)))) rfl ha (Nat.le_refl _) (by show _ < 8000; omega) (fun k hk => by rw [up_s, up_s, fl_i hk, fu_e (Nat.le_refl _)]; rfl) (fun j h1 h2 => by omega)
  refine ⟨S2, b1, b2, fun t ht => ?_, fun o ho => ?_⟩
  · rw [b3 t ht, up_n ht]
  · rw [b4 o ho, up_s, up_n ho.2]
