/-! the parts stay within their limits -/
theorem setl_ok {Z : Nat → Nat} {lim : Nat} : ∀ (q p : List Nat), uS Z (setl Z lim p q).2 ≤ lim ∧ uS Z ((setl Z lim p q).1 ++ (setl Z lim p q).2) = uS Z (p ++ q)
  | [], p => ⟨Nat.zero_le _, rfl⟩
  | k :: q, p => by
    by_cases h : uS Z (k :: q) ≤ lim
    · have e : setl Z lim p (k :: q) = (p, k :: q) := if_pos h
      rw [e]
      exact ⟨h, rfl⟩
    · have e : setl Z lim p (k :: q) = setl Z lim (p ++ [k]) q := if_neg h
      rw [e]
      have h2 := setl_ok (Z := Z) (lim := lim) q (p ++ [k])
      refine ⟨h2.1, h2.2.trans ?_⟩
      rw [List.append_assoc]
      rfl
theorem setl_id {Z : Nat → Nat} {lim : Nat} {p q : List Nat} (h : uS Z q ≤ lim) : setl Z lim p q = (p, q) := by
  match q with
  | [] => rfl
  | k :: q => exact if_pos h
theorem need_sum {Z : Nat → Nat} : ∀ (v : List Nat) (a : Nat), a ≤ uS Z v → uS Z (v.drop (need Z a v)) + a ≤ uS Z v
  | [], a, h => by
    have h : a ≤ 0 := h
    show 0 + a ≤ 0
    omega
  | k :: v, a, h => by
    have h : a ≤ Z k + uS Z v := h
    by_cases e : a = 0
    · have e2 : need Z a (k :: v) = 0 := if_pos e
      rw [e2, List.drop_zero]
      omega
    · have e2 : need Z a (k :: v) = need Z (a - Z k) v + 1 := if_neg e
      rw [e2, List.drop_succ_cons]
      have := need_sum (Z := Z) v (a - Z k) (by omega)
      show _ ≤ Z k + uS Z v
      omega
theorem rot_sum {Z : Nat → Nat} : ∀ (n : Nat) (l : List Nat), uS Z (rotN n l) = uS Z l
  | 0, l => by rw [rot_0]
  | n + 1, [] => rfl
  | n + 1, k :: l => by
    show uS Z (rotN n (l ++ [k])) = Z k + uS Z l
    rw [rot_sum n, uS_app]
    show uS Z l + (Z k + 0) = _
    omega
theorem jd_sum {Z e : Nat → Nat} {mode most lim c : Nat} {p q : List Nat} (h1 : uS Z (p ++ q) ≤ most) (h2 : uS Z q ≤ lim) : uS Z ((jd Z e mode most c p q).1 ++ (jd Z e mode most c p q).2.1) ≤ most ∧ uS Z (jd Z e mode most c p q).2.1 ≤ lim := by
  have hd : ∀ n, uS Z (q.drop n) ≤ lim := fun n => Nat.le_trans (uS_drop_le q n) h2
  have hv : ∀ n, uS Z (p.drop n) + uS Z (q.drop (n - p.length)) = uS Z ((p ++ q).drop n) := fun n => by rw [List.drop_append, uS_app]
  unfold jd
  split
  · exact ⟨h1, h2⟩
  · rename_i hz
    split
    · refine ⟨?_, hd _⟩
      show uS Z (p.drop (jn0 Z most c (p ++ q)) ++ [c] ++ q.drop (jn0 Z most c (p ++ q) - p.length)) ≤ most
      rw [uS_app, uS_app]
      have e1 := hv (jn0 Z most c (p ++ q))
      have e2 := need_sum (Z := Z) (p ++ q) (uS Z (p ++ q) + Z c - most) (by omega)
      have e2 : uS Z ((p ++ q).drop (jn0 Z most c (p ++ q))) + (uS Z (p ++ q) + Z c - most) ≤ uS Z (p ++ q) := e2
      have e3 : uS Z [c] = Z c := rfl
      omega
    · split
      · refine ⟨?_, ?_⟩
        · show uS Z (rotN _ p ++ rotN _ q) ≤ most
          rw [uS_app, rot_sum, rot_sum, ← uS_app]
          exact h1
        · show uS Z (rotN _ q) ≤ lim
          rw [rot_sum]
          exact h2
      · refine ⟨?_, hd _⟩
        show uS Z (p.drop _ ++ q.drop _) ≤ most
        rw [uS_app, hv]
        exact Nat.le_trans (uS_drop_le _ _) h1
theorem ovf_sum {Z e : Nat → Nat} {mode C W lim : Nat} : ∀ (w p q : List Nat), uS Z (p ++ q) ≤ C - W → uS Z q ≤ lim → uS Z (ovf Z e mode C W w p q).1 ≤ W ∧ uS Z ((ovf Z e mode C W w p q).2.1 ++ (ovf Z e mode C W w p q).2.2.1) ≤ C - W ∧ uS Z (ovf Z e mode C W w p q).2.2.1 ≤ lim
  | [], p, q, h1, h2 => ⟨Nat.zero_le _, h1, h2⟩
  | k :: w, p, q, h1, h2 => by
    by_cases h : uS Z (k :: w) ≤ W
    · have hs : ovf Z e mode C W (k :: w) p q = (k :: w, p, q, 0) := if_pos h
      rw [hs]
      exact ⟨h, h1, h2⟩
    · have hs : ovf Z e mode C W (k :: w) p q = ((ovf Z e mode C W w (jd Z e mode (C - W) k p q).1 (jd Z e mode (C - W) k p q).2.1).1, (ovf Z e mode C W w (jd Z e mode (C - W) k p q).1 (jd Z e mode (C - W) k p q).2.1).2.1, (ovf Z e mode C W w (jd Z e mode (C - W) k p q).1 (jd Z e mode (C - W) k p q).2.1).2.2.1, (jd Z e mode (C - W) k p q).2.2 + (ovf Z e mode C W w (jd Z e mode (C - W) k p q).1 (jd Z e mode (C - W) k p q).2.1).2.2.2) := if_neg h
      rw [hs]
      obtain ⟨j1, j2⟩ := jd_sum (e := e) (mode := mode) (c := k) h1 h2
      exact ovf_sum w _ _ j1 j2
theorem ovf_id {Z e : Nat → Nat} {mode C W : Nat} {w p q : List Nat} (h : uS Z w ≤ W) : ovf Z e mode C W w p q = (w, p, q, 0) := by
  match w with
  | [] => rfl
  | k :: w => exact if_pos h
theorem ovf_ok {Z e : Nat → Nat} {mode C W : Nat} : ∀ (w p q : List Nat), okL 3 (L3 w p q) → okL 3 (L3 (ovf Z e mode C W w p q).1 (ovf Z e mode C W w p q).2.1 (ovf Z e mode C W w p q).2.2.1)
  | [], p, q, h1 => h1
  | k :: w, p, q, h1 => by
    by_cases h : uS Z (k :: w) ≤ W
    · have hs : ovf Z e mode C W (k :: w) p q = (k :: w, p, q, 0) := if_pos h
      rw [hs]
      exact h1
    · have hs : ovf Z e mode C W (k :: w) p q = ((ovf Z e mode C W w (jd Z e mode (C - W) k p q).1 (jd Z e mode (C - W) k p q).2.1).1, (ovf Z e mode C W w (jd Z e mode (C - W) k p q).1 (jd Z e mode (C - W) k p q).2.1).2.1, (ovf Z e mode C W w (jd Z e mode (C - W) k p q).1 (jd Z e mode (C - W) k p q).2.1).2.2.1, (jd Z e mode (C - W) k p q).2.2 + (ovf Z e mode C W w (jd Z e mode (C - W) k p q).1 (jd Z e mode (C - W) k p q).2.1).2.2.2) := if_neg h
      rw [hs]
      have hn : ∀ r, r < 3 → k ∉ L3 w p q r := fun r hr => by rw [← L3_d0 h1]; exact out_nm h1 hr
      exact ovf_ok w _ _ (jd_ok (ok_h0 h1).1 (by rw [← L3_d0 h1]; exact ok_out h1 k) hn)
theorem spl_sum {Z : Nat → Nat} {most lim : Nat} : ∀ (m : Nat) (w p q : List Nat), (p ++ q).length = m → uS Z q ≤ lim → uS Z ((spl Z most w p q).2.1 ++ (spl Z most w p q).2.2) ≤ most ∧ uS Z (spl Z most w p q).2.2 ≤ lim := by
  intro m
  induction m with
  | zero =>
    intro w p q h1 h2
    have hv : p ++ q = [] := List.eq_nil_of_length_eq_zero h1
    have hus : uS Z (p ++ q) = 0 := by rw [hv]; rfl
    rw [spl_0 (by omega)]
    exact ⟨by show uS Z (p ++ q) ≤ most; omega, h2⟩
  | succ m ih =>
    intro w p q h1 h2
    by_cases h : uS Z (p ++ q) ≤ most
    · rw [spl_0 h]
      exact ⟨h, h2⟩
    · match p, q, h1, h2, h with
      | kk :: p, q, h1, h2, h =>
        rw [spl_1 h]
        exact ih _ p q (by simp at h1 ⊢; omega) h2
      | [], [], h1, h2, h => simp at h1
      | [], kk :: q, h1, h2, h =>
        rw [spl_2 h]
        exact ih _ [] q (by simp at h1 ⊢; omega) (by
          have h2 : Z kk + uS Z q ≤ lim := h2
          omega)
theorem spl_ok {Z : Nat → Nat} {most : Nat} : ∀ (m : Nat) (w p q : List Nat), (p ++ q).length = m → okL 3 (L3 w p q) → okL 3 (L3 (spl Z most w p q).1 (spl Z most w p q).2.1 (spl Z most w p q).2.2) := by
  intro m
  induction m with
  | zero =>
    intro w p q h1 h2
    have hv : p ++ q = [] := List.eq_nil_of_length_eq_zero h1
    have hus : uS Z (p ++ q) = 0 := by rw [hv]; rfl
    rw [spl_0 (by omega)]
    exact h2
  | succ m ih =>
    intro w p q h1 h2
    by_cases h : uS Z (p ++ q) ≤ most
    · rw [spl_0 h]
      exact h2
    · match p, q, h1, h2, h with
      | kk :: p, q, h1, h2, h =>
        rw [spl_1 h]
        exact ih _ p q (by simp at h1 ⊢; omega) (by rw [← L3_m10 h2]; exact ok_mov h2 (ok_h1 h2).1)
      | [], [], h1, h2, h => simp at h1
      | [], kk :: q, h1, h2, h =>
        rw [spl_2 h]
        exact ih _ [] q (by simp at h1 ⊢; omega) (by rw [← L3_m20 h2]; exact ok_mov h2 (ok_h2 h2).1)
theorem setl_okL {Z : Nat → Nat} {lim : Nat} {w : List Nat} : ∀ (q p : List Nat), okL 3 (L3 w p q) → okL 3 (L3 w (setl Z lim p q).1 (setl Z lim p q).2)
  | [], p, h => h
  | k :: q, p, h1 => by
    by_cases h : uS Z (k :: q) ≤ lim
    · have e : setl Z lim p (k :: q) = (p, k :: q) := if_pos h
      rw [e]
      exact h1
    · have e : setl Z lim p (k :: q) = setl Z lim (p ++ [k]) q := if_neg h
      rw [e]
      exact setl_okL q (p ++ [k]) (by rw [← L3_m21 h1]; exact ok_mov h1 (ok_h2 h1).1)
/-! the trace: the latest 300 -/
def ntT (T : List Nat) (k : Nat) : List Nat := if T.length = 300 then T.tail ++ [k] else T ++ [k]
/-- the class's ring -/
def RG (T : List Nat) (g : Sg) : Prop := ∃ e, e < 300 ∧ g 0 1 = nI e ∧ g 0 2 = nI T.length ∧ ∀ i, i < T.length → g 1 ((e + i) % 300) = nI (gt T i)
theorem rem_n {a d : Nat} (ha : a < 1000000) (h0 : 0 < d) (hd : d < 1000000) : nI a - nI a / nI d * nI d = nI (a % d) := pk_rem (p31 ha) h0 (p31 hd)
theorem gt_tl {T : List Nat} {i : Nat} : gt T.tail i = gt T (i + 1) := by
  cases T with
  | nil => rfl
  | cons a T => rw [gt_c]; rfl
theorem nt_len {T : List Nat} {k : Nat} (h : T.length ≤ 300) : (ntT T k).length = if T.length = 300 then 300 else T.length + 1 := by
  unfold ntT
  split
  · simp
    omega
  · simp
theorem nt_lt {T : List Nat} {k : Nat} (hk : k < 100) (h : ∀ j, j ∈ T → j < 100) : ∀ j, j ∈ ntT T k → j < 100 := by
  intro j hj
  unfold ntT at hj
  split at hj
  · rcases List.mem_append.mp hj with h1 | h1
    · exact h j (List.mem_of_mem_tail h1)
    · rw [List.mem_singleton] at h1
      omega
  · rcases List.mem_append.mp hj with h1 | h1
    · exact h j h1
    · rw [List.mem_singleton] at h1
      omega
theorem pt_note {T : List Nat} {g : Sg} {k : Nat} (hT : T.length ≤ 300) (hR : RG T g) : ∃ g2, f9_note (nI k) g = some g2 ∧ RG (ntT T k) g2 := by
  obtain ⟨e, he, h1, h2, h3⟩ := hR
  have hm : (e + T.length) % 300 < 300 := Nat.mod_lt _ (by decide)
  have hr : nI e + nI T.length - (nI e + nI T.length) / nI 300 * nI 300 = nI ((e + T.length) % 300) := by
    rw [nI_add]
    exact rem_n (by omega) (by decide) (by decide)
  have hr2 : nI e + nI 1 - (nI e + nI 1) / nI 300 * nI 300 = nI ((e + 1) % 300) := by
    rw [nI_add]
    exact rem_n (by omega) (by decide) (by decide)
  unfold f9_note
  simp only [z_300, z_1]
  rw [h1, h2, hr, wr_n hm (by decide), cl_n (by omega)]
  simp only [up_01]
  rw [h1, h2, hr2]
  simp (disch := omega) only [lep]
  by_cases h : 300 ≤ T.length
  · rw [if_pos h]
    refine ⟨_, rfl, (e + 1) % 300, Nat.mod_lt _ (by decide), ?_, ?_, fun i hi => ?_⟩
    · rw [up_s, ud_s]
    · rw [up_s, ud_n (by decide), h2, nt_len hT, if_pos (by omega)]
      congr 1
      omega
    · rw [nt_len hT, if_pos (by omega)] at hi
      rw [up_n (by decide), up_s]
      unfold ntT
      rw [if_pos (by omega), gt_app, List.length_tail]
      by_cases hi2 : i < T.length - 1
      · rw [ud_n (by omega), if_pos hi2, gt_tl, ← h3 (i + 1) (by omega)]
        congr 1
        omega
      · rw [if_neg hi2, show ((e + 1) % 300 + i) % 300 = (e + T.length) % 300 by omega, ud_s, show i - (T.length - 1) = 0 by omega]
        rfl
  · rw [if_neg h, nI_add]
    refine ⟨_, rfl, e, he, ?_, ?_, fun i hi => ?_⟩
    · rw [up_s, ud_n (by decide)]
      exact h1
    · rw [up_s, ud_s, nt_len hT, if_neg (by omega)]
    · rw [nt_len hT, if_neg (by omega)] at hi
      rw [up_n (by decide), up_s]
      unfold ntT
      rw [if_neg (by omega), gt_app]
      by_cases hi2 : i < T.length
      · rw [ud_n (by omega), if_pos hi2]
        exact h3 i hi2
      · rw [if_neg hi2, show i = T.length by omega, ud_s, Nat.sub_self]
        rfl
theorem pt_key {T : List Nat} {g : Sg} {i : Nat} (hT : T.length ≤ 300) (hR : RG T g) (hi : i < T.length) : f9_keyAt g (nI i) = some (nI (gt T i)) := by
  obtain ⟨e, he, h1, h2, h3⟩ := hR
  have hm : (e + i) % 300 < 300 := Nat.mod_lt _ (by decide)
  have hr : nI e + nI i - (nI e + nI i) / nI 300 * nI 300 = nI ((e + i) % 300) := by
    rw [nI_add]
    exact rem_n (by omega) (by decide) (by decide)
  unfold f9_keyAt
  simp only [z_300, z_0]
  rw [h1, h2, hr]
  simp (disch := omega) only [lep, ltp, Nat.not_lt_zero, if_false]
  rw [if_neg (by omega), rd_n hm (by decide), h3 i hi]
