/-! seats: the class's c, the reference's m -/
def SQ (T : List Nat) (e i t : Nat) (ke : Nat → Nat) (c m : Sg) (s : Nat) : Prop := ke s < 100 ∧ c 1 s = nI (ke s) ∧ m 5 s = nI (ke s) ∧ c 2 s = m 9 s ∧ c 3 s = m 8 s ∧ c 4 s = m 7 s ∧ c 6 s = m 6 s ∧ (c 6 s = 0 ∨ c 6 s = 1) ∧ c 5 s = nI (fu T e (ke s) i)
def SE (T : List Nat) (e pi n i t hd : Nat) (ke : Nat → Nat) (c m : Sg) : Prop := (c 0 0 = nI pi ∧ c 0 7 = nI n ∧ c 0 8 = nI t ∧ c 0 9 = nI hd ∧ m 0 12 = nI t ∧ m 0 13 = nI hd) ∧ (t ≤ n ∧ hd < n ∧ n ≤ 30) ∧ (∀ s, s < t → SQ T e i t ke c m s) ∧ ∀ s q, s < t → q < t → ke s = ke q → s = q
/-- what playing leaves of the reference -/
def MF (m m2 : Sg) : Prop := (∀ o, (1 ≤ o ∧ o ≤ 4) → m2 o = m o) ∧ ∀ j, j < 12 → m2 0 j = m 0 j
theorem MF.r {m : Sg} : MF m m := ⟨fun _ _ => rfl, fun _ _ => rfl⟩
theorem MF.t {a b c : Sg} (h1 : MF a b) (h2 : MF b c) : MF a c := ⟨fun o ho => (h2.1 o ho).trans (h1.1 o ho), fun j hj => (h2.2 j hj).trans (h1.2 j hj)⟩
theorem ps_of {c : Sg} {t k : Nat} {ke : Nat → Nat} (h8 : c 0 8 = nI t) (ht : t ≤ 30) (hk : k < 100) (h1 : ∀ s, s < t → ke s < 100 ∧ c 1 s = nI (ke s)) : ∀ (m i n : Nat), t - i = m → i ≤ t → m < n → (∀ s, i ≤ s → s < t → ke s = k → (∀ q, i ≤ q → q < s → ¬ ke q = k) → f6_seatOf_l2 c n (nI k) (nI i) = some (nI s)) ∧ ((∀ q, i ≤ q → q < t → ¬ ke q = k) → f6_seatOf_l2 c n (nI k) (nI i) = some (-1)) := by
  intro m
  induction m with
  | zero =>
    intro i n e hi hn
    obtain ⟨n, rfl⟩ : ∃ k, n = k + 1 := ⟨n - 1, by omega⟩
    refine ⟨fun s h1 h2 => by omega, fun _ => ?_⟩
    show f6_seatOf_b2 c (f6_seatOf_l2 c n) _ _ = _
    unfold f6_seatOf_b2
    rw [h8, if_pos (show nI t ≤ nI i by rw [lep (by omega) (by omega)]; omega)]
  | succ m ih =>
    intro i n e hi hn
    obtain ⟨n, rfl⟩ : ∃ k, n = k + 1 := ⟨n - 1, by omega⟩
    obtain ⟨a1, a2⟩ := ih (i + 1) n (by omega) (by omega) (by omega)
    obtain ⟨b1, b2⟩ := h1 i (by omega)
    have hstep : f6_seatOf_l2 c (n + 1) (nI k) (nI i) = if ke i = k then some (nI i) else f6_seatOf_l2 c n (nI k) (nI (i + 1)) := by
      show f6_seatOf_b2 c (f6_seatOf_l2 c n) _ _ = _
      unfold f6_seatOf_b2
      rw [h8, if_neg (show ¬ nI t ≤ nI i by rw [lep (by omega) (by omega)]; omega), rd_n (by omega) (by omega), b2, z_1, nI_add]
      by_cases e2 : ke i = k
      · rw [if_pos e2, if_pos (by rw [e2])]
      · rw [if_neg e2, if_neg (show ¬ nI (ke i) = nI k by rw [eqp (by omega) (by omega)]; exact e2)]
    rw [hstep]
    refine ⟨fun s h1 h2 h3 h4 => ?_, fun h => ?_⟩
    · by_cases e2 : s = i
      · rw [if_pos (e2 ▸ h3), e2]
      · rw [if_neg (h4 i (Nat.le_refl _) (by omega))]
        exact a1 s (by omega) h2 h3 (fun q hq => h4 q (by omega))
    · rw [if_neg (h i (Nat.le_refl _) (by omega))]
      exact a2 (fun q hq => h q (by omega))
theorem pn_of {g : Sg} {t k : Nat} {ke : Nat → Nat} (h8 : g 0 12 = nI t) (ht : t ≤ 30) (hk : k < 100) (h1 : ∀ s, s < t → ke s < 100 ∧ g 5 s = nI (ke s)) : ∀ (m i n : Nat), t - i = m → i ≤ t → m < n → (∀ s, i ≤ s → s < t → ke s = k → (∀ q, i ≤ q → q < s → ¬ ke q = k) → f11_seatOf_l2 g n (nI k) (nI i) = some (nI s)) ∧ ((∀ q, i ≤ q → q < t → ¬ ke q = k) → f11_seatOf_l2 g n (nI k) (nI i) = some (-1)) := by
  intro m
  induction m with
  | zero =>
    intro i n e hi hn
    obtain ⟨n, rfl⟩ : ∃ k, n = k + 1 := ⟨n - 1, by omega⟩
    refine ⟨fun s h1 h2 => by omega, fun _ => ?_⟩
    show f11_seatOf_b2 g (f11_seatOf_l2 g n) _ _ = _
    unfold f11_seatOf_b2
    rw [h8, if_pos (show nI t ≤ nI i by rw [lep (by omega) (by omega)]; omega)]
  | succ m ih =>
    intro i n e hi hn
    obtain ⟨n, rfl⟩ : ∃ k, n = k + 1 := ⟨n - 1, by omega⟩
    obtain ⟨a1, a2⟩ := ih (i + 1) n (by omega) (by omega) (by omega)
    obtain ⟨b1, b2⟩ := h1 i (by omega)
    have hstep : f11_seatOf_l2 g (n + 1) (nI k) (nI i) = if ke i = k then some (nI i) else f11_seatOf_l2 g n (nI k) (nI (i + 1)) := by
      show f11_seatOf_b2 g (f11_seatOf_l2 g n) _ _ = _
      unfold f11_seatOf_b2
      rw [h8, if_neg (show ¬ nI t ≤ nI i by rw [lep (by omega) (by omega)]; omega), rd_n (by omega) (by omega), b2, z_1, nI_add]
      by_cases e2 : ke i = k
      · rw [if_pos e2, if_pos (by rw [e2])]
      · rw [if_neg e2, if_neg (show ¬ nI (ke i) = nI k by rw [eqp (by omega) (by omega)]; exact e2)]
    rw [hstep]
    refine ⟨fun s h1 h2 h3 h4 => ?_, fun h => ?_⟩
    · by_cases e2 : s = i
      · rw [if_pos (e2 ▸ h3), e2]
      · rw [if_neg (h4 i (Nat.le_refl _) (by omega))]
        exact a1 s (by omega) h2 h3 (fun q hq => h4 q (by omega))
    · rw [if_neg (h i (Nat.le_refl _) (by omega))]
      exact a2 (fun q hq => h q (by omega))
theorem se_in {T : List Nat} {e pi n i t hd k s : Nat} {ke : Nat → Nat} {c m : Sg} (h : SE T e pi n i t hd ke c m) (hk : k < 100) (hs : s < t) (hsk : ke s = k) : f6_seatOf c (nI k) = some (nI s) ∧ f11_seatOf m (nI k) = some (nI s) := by
  obtain ⟨⟨h1, h2, h3, h4, h5, h6⟩, ⟨h7, h8, h9⟩, h10, h11⟩ := h
  have hu : ∀ q, 0 ≤ q → q < s → ¬ ke q = k := fun q _ hq hqk => by
    have := h11 q s (by omega) hs (hqk.trans hsk.symm)
    omega
  exact ⟨(ps_of h3 (by omega) hk (fun s hs => ⟨(h10 s hs).1, (h10 s hs).2.1⟩) t 0 NF rfl (by omega) (by show _ < 8000; omega)).1 s (by omega) hs hsk hu, (pn_of h5 (by omega) hk (fun s hs => ⟨(h10 s hs).1, (h10 s hs).2.2.1⟩) t 0 NF rfl (by omega) (by show _ < 8000; omega)).1 s (by omega) hs hsk hu⟩
theorem se_out {T : List Nat} {e pi n i t hd k : Nat} {ke : Nat → Nat} {c m : Sg} (h : SE T e pi n i t hd ke c m) (hk : k < 100) (hn : ∀ s, s < t → ¬ ke s = k) : f6_seatOf c (nI k) = some (-1) ∧ f11_seatOf m (nI k) = some (-1) := by
  obtain ⟨⟨h1, h2, h3, h4, h5, h6⟩, ⟨h7, h8, h9⟩, h10, h11⟩ := h
  exact ⟨(ps_of h3 (by omega) hk (fun s hs => ⟨(h10 s hs).1, (h10 s hs).2.1⟩) t 0 NF rfl (by omega) (by show _ < 8000; omega)).2 (fun q _ hq => hn q hq), (pn_of h5 (by omega) hk (fun s hs => ⟨(h10 s hs).1, (h10 s hs).2.2.1⟩) t 0 NF rfl (by omega) (by show _ < 8000; omega)).2 (fun q _ hq => hn q hq)⟩
theorem fx_lt {a b : Nat} (ha : a ≤ 300) (hb : b ≤ 300) : (fx a < fx b) = (a < b) := by
  unfold fx
  apply propext
  split <;> split <;> omega
theorem fx_eq {a b : Nat} (ha : a ≤ 300) (hb : b ≤ 300) : (fx a = fx b) = (a = b) := by
  unfold fx
  apply propext
  split <;> split <;> omega
theorem fx_b {a : Nat} (ha : a ≤ 300) : fx a < 100000 := by
  unfold fx
  split <;> omega
/-- who goes: the same answer on both sides -/
theorem se_rank {T : List Nat} {e pi n i t hd : Nat} {ke : Nat → Nat} {c m : Sg} (he : e ≤ T.length) (hT : T.length ≤ 300) (hb : ∀ j, j ∈ T → j < 100) (hx : ∀ i, i < T.length → m 1 (1405 + i) = nI (gt T i)) (hi : i < e) (hpi : pi < 5) (hp2 : pi ≠ 2) (h : SE T e pi n i t hd ke c m) (hn : ∀ s, s < t → ¬ gt T i = ke s) {s b : Nat} (hs : s < t) (hbt : b < t) : ∃ v, f6_goesBefore c (nI s) (nI b) = some v ∧ f11_isSooner m (nI pi) (nI s) (nI b) (nI i) (nI e) = some v := by
  obtain ⟨⟨h1, h2, h3, h4, h5, h6⟩, ⟨h7, h8, h9⟩, h10, h11⟩ := h
  obtain ⟨a1, a2, a3, a4, a5, a6, a7, a8, a9⟩ := h10 s hs
  obtain ⟨b1, b2, b3, b4, b5, b6, b7, b8, b9⟩ := h10 b hbt
  have s30 : s < 30 := by omega
  have b30 : b < 30 := by omega
  have gs : f11_again m (nI (ke s)) (nI i) (nI e) = some (nI (fx (fu T e (ke s) i))) := by
    rw [fu_ne hi (hn s hs)]
    exact pm_again he hT a1 hb hx hi
  have gb : f11_again m (nI (ke b)) (nI i) (nI e) = some (nI (fx (fu T e (ke b) i))) := by
    rw [fu_ne hi (hn b hbt)]
    exact pm_again he hT b1 hb hx hi
  have f1 := fu_300 (T := T) (e := e) (k := ke s) (i := i) (by omega)
  have f2 := fu_300 (T := T) (e := e) (k := ke b) (i := i) (by omega)
  have x1 := fx_b f1
  have x2 := fx_b f2
  have hp : pi = 0 ∨ pi = 1 ∨ pi = 3 ∨ pi = 4 := by omega
  unfold f6_goesBefore f11_isSooner
  rw [h1]
  rcases hp with rfl | rfl | rfl | rfl
  · rw [if_neg (by decide), if_neg (by decide), if_neg (by decide), if_neg (by decide), if_pos (show nI 0 = 0 from rfl)]
    simp only [rd_n s30 (show 30 < 1000000 by decide), rd_n b30 (show 30 < 1000000 by decide), a5, b5]
    by_cases hc : m 8 b ≤ m 8 s
    · exact ⟨0, if_pos hc, if_pos hc⟩
    · exact ⟨1, if_neg hc, if_neg hc⟩
  · rw [if_pos (show nI 1 = 1 from rfl), if_neg (by decide), if_pos (show nI 1 = 1 from rfl)]
    simp only [rd_n s30 (show 30 < 1000000 by decide), rd_n b30 (show 30 < 1000000 by decide), a4, b4]
    by_cases hc : m 9 b ≤ m 9 s
    · exact ⟨0, if_pos hc, if_pos hc⟩
    · exact ⟨1, if_neg hc, if_neg hc⟩
  · rw [if_neg (by decide), if_neg (by decide), if_pos (show nI 3 = 3 from rfl), if_neg (by decide), if_neg (by decide), if_neg (by decide), if_pos (show nI 3 = 3 from rfl)]
    simp only [rd_n s30 (show 30 < 1000000 by decide), rd_n b30 (show 30 < 1000000 by decide), a5, b5, a6, b6]
    by_cases d1 : m 7 s < m 7 b
    · exact ⟨1, if_pos d1, if_pos d1⟩
    · rw [if_neg d1]
      by_cases d2 : m 7 s = m 7 b
      · rw [if_pos d2]
        by_cases d3 : m 8 b ≤ m 8 s
        · exact ⟨0, if_pos d3, if_pos d3⟩
        · exact ⟨1, if_neg d3, if_neg d3⟩
      · exact ⟨0, if_neg d2, if_neg d2⟩
  · rw [if_neg (by decide), if_neg (by decide), if_neg (by decide), if_pos (show nI 4 = 4 from rfl), if_neg (by decide), if_neg (by decide), if_neg (by decide), if_neg (by decide)]
    simp only [rd_n s30 (show 30 < 1000000 by decide), rd_n b30 (show 30 < 1000000 by decide), a9, b9, a2, b2, a3, b3, gs, gb, bd_e]
    simp (disch := omega) only [ltp, eqp, lep]
    simp only [fx_lt f2 f1, fx_eq f1 f2]
    by_cases d1 : fu T e (ke b) i < fu T e (ke s) i
    · exact ⟨1, if_pos d1, if_pos d1⟩
    · rw [if_neg d1]
      by_cases d2 : fu T e (ke s) i = fu T e (ke b) i
      · rw [if_pos d2]
        by_cases d3 : ke b ≤ ke s
        · exact ⟨0, if_pos d3, if_pos d3⟩
        · exact ⟨1, if_neg d3, if_neg d3⟩
      · exact ⟨0, if_neg d2, if_neg d2⟩
theorem se_rankL {T : List Nat} {e pi n i t hd : Nat} {ke : Nat → Nat} {c m : Sg} (he : e ≤ T.length) (hT : T.length ≤ 300) (hb : ∀ j, j ∈ T → j < 100) (hx : ∀ i, i < T.length → m 1 (1405 + i) = nI (gt T i)) (hi : i < e) (hpi : pi < 5) (hp2 : pi ≠ 2) (h : SE T e pi n i t hd ke c m) (hn : ∀ s, s < t → ¬ gt T i = ke s) : ∀ (d s b n1 n2 : Nat), t - s = d → b < t → d < n1 → d < n2 → s ≤ 31 → ∃ r, r < t ∧ f6_seatByRank_l4 c n1 (nI b) (nI s) = some (nI r) ∧ f11_seatThatGoes_l69 n2 (nI pi) (nI i) (nI e) (nI b) (nI s) m = some (nI r, m) := by
  have h8 := h.1.2.2.1
  have h12 := h.1.2.2.2.2.1
  have ht : t ≤ 30 := by have := h.2.1; omega
  intro d
  induction d with
  | zero =>
    intro s b n1 n2 e1 hb1 hn1 hn2 hs
    obtain ⟨n1, rfl⟩ : ∃ k, n1 = k + 1 := ⟨n1 - 1, by omega⟩
    obtain ⟨n2, rfl⟩ : ∃ k, n2 = k + 1 := ⟨n2 - 1, by omega⟩
    have hle : nI t ≤ nI s := by rw [lep (by omega) (by omega)]; omega
    refine ⟨b, hb1, ?_, ?_⟩
    · show f6_seatByRank_b4 c (f6_seatByRank_l4 c n1) _ _ = _
      unfold f6_seatByRank_b4
      rw [h8, if_pos hle]
    · show f11_seatThatGoes_b69 (f11_seatThatGoes_l69 n2) _ _ _ _ _ _ = _
      unfold f11_seatThatGoes_b69
      rw [h12, if_pos hle]
  | succ d ih =>
    intro s b n1 n2 e1 hb1 hn1 hn2 hs
    obtain ⟨n1, rfl⟩ : ∃ k, n1 = k + 1 := ⟨n1 - 1, by omega⟩
    obtain ⟨n2, rfl⟩ : ∃ k, n2 = k + 1 := ⟨n2 - 1, by omega⟩
    have hle : ¬ nI t ≤ nI s := by rw [lep (by omega) (by omega)]; omega
    obtain ⟨v, v1, v2⟩ := se_rank he hT hb hx hi hpi hp2 h hn (s := s) (b := b) (by omega) hb1
    have hd2 : ∃ b2, b2 < t ∧ (f6_seatByRank_l4 c (n1 + 1) (nI b) (nI s) = f6_seatByRank_l4 c n1 (nI b2) (nI (s + 1))) ∧ f11_seatThatGoes_l69 (n2 + 1) (nI pi) (nI i) (nI e) (nI b) (nI s) m = f11_seatThatGoes_l69 n2 (nI pi) (nI i) (nI e) (nI b2) (nI (s + 1)) m := by
      refine ⟨if v = 0 then b else s, ?_, ?_, ?_⟩
      · split <;> omega
      · show f6_seatByRank_b4 c (f6_seatByRank_l4 c n1) _ _ = _
        unfold f6_seatByRank_b4
        rw [h8, if_neg hle, v1, bd_e, z_1, nI_add]
        by_cases e2 : v = 0
        · rw [if_pos e2, if_pos e2]
        · rw [if_neg e2, if_neg e2]
      · show f11_seatThatGoes_b69 (f11_seatThatGoes_l69 n2) _ _ _ _ _ _ = _
        unfold f11_seatThatGoes_b69
        rw [h12, if_neg hle, v2, bd_e, z_1, nI_add]
        by_cases e2 : v = 0
        · rw [if_pos e2, if_pos e2]
        · rw [if_neg e2, if_neg e2]
    obtain ⟨b2, c1, c2, c3⟩ := hd2
    rw [c2, c3]
    exact ih (s + 1) b2 n1 n2 (by omega) c1 (by omega) (by omega) (by omega)
/-! the hand -/
def cm (z : Nat → Int32) : Nat → Nat
  | 0 => 0
  | s + 1 => (if z s = 1 then 1 else 0) + cm z s
theorem cm_0 {z : Nat → Int32} : ∀ n, cm z n = 0 → ∀ s, s < n → ¬ z s = 1
  | 0, _, s, hs => absurd hs (Nat.not_lt_zero s)
  | n + 1, h, s, hs => by
    have h : (if z n = 1 then 1 else 0) + cm z n = 0 := h
    intro e
    by_cases e2 : s = n
    · rw [← e2, if_pos e] at h; omega
    · exact cm_0 n (by omega) s (by omega) e
theorem cm_u {z : Nat → Int32} {k : Nat} : ∀ n, n ≤ k → cm (upd z k 0) n = cm z n
  | 0, _ => rfl
  | n + 1, h => by
    show (if upd z k 0 n = 1 then 1 else 0) + cm (upd z k 0) n = (if z n = 1 then 1 else 0) + cm z n
    rw [cm_u n (by omega), ud_n (by omega)]
theorem cm_s {z : Nat → Int32} {k : Nat} (hk : z k = 1) : ∀ n, k < n → cm (upd z k 0) n + 1 = cm z n
  | 0, h => absurd h (Nat.not_lt_zero k)
  | n + 1, h => by
    show (if upd z k 0 n = 1 then 1 else 0) + cm (upd z k 0) n + 1 = (if z n = 1 then 1 else 0) + cm z n
    by_cases e : k = n
    · subst e
      rw [ud_s, if_neg (by decide), if_pos hk, cm_u _ (Nat.le_refl _)]
      omega
    · rw [ud_n (fun e2 => e e2.symm)]
      have := cm_s hk n (by omega)
      omega
theorem cm_le {z : Nat → Int32} : ∀ n, cm z n ≤ n
  | 0 => Nat.le_refl _
  | n + 1 => by
    have := cm_le (z := z) n
    show (if z n = 1 then 1 else 0) + cm z n ≤ n + 1
    split <;> omega
theorem se_hand {n t : Nat} (hn : n ≤ 30) : ∀ (d w n1 n2 hd : Nat) (c m : Sg), cm (c 6) n = d → d ≤ w → w ≤ 30 → d < n1 → d < n2 → hd < n → c 0 7 = nI n → c 0 9 = nI hd → m 0 13 = nI hd → (∀ s, s < n → c 6 s = m 6 s ∧ (c 6 s = 0 ∨ c 6 s = 1)) → ∃ r hd2 c2 m2, r < n ∧ hd2 < n ∧ f6_seatByHand_l5 n1 (nI w) c = some (nI r, c2) ∧ f11_seatThatGoes_l5 n2 (nI n) m = some (nI r, m2) ∧ (∀ o, o ≠ 0 → o ≠ 6 → c2 o = c o) ∧ (∀ j, j ≠ 9 → c2 0 j = c 0 j) ∧ c2 0 9 = nI hd2 ∧ (∀ o, o ≠ 0 → o ≠ 6 → m2 o = m o) ∧ (∀ j, j ≠ 13 → m2 0 j = m 0 j) ∧ m2 0 13 = nI hd2 ∧ (∀ s, s < n → c2 6 s = m2 6 s ∧ (c2 6 s = 0 ∨ c2 6 s = 1)) := by
  intro d
  induction d with
  | zero =>
    intro w n1 n2 hd c m h0 hw hw3 hn1 hn2 hh h7 h9 h13 h6
    obtain ⟨n1, rfl⟩ : ∃ k, n1 = k + 1 := ⟨n1 - 1, by omega⟩
    obtain ⟨n2, rfl⟩ : ∃ k, n2 = k + 1 := ⟨n2 - 1, by omega⟩
    have hne := cm_0 n h0 hd hh
    obtain ⟨b1, b2⟩ := h6 hd hh
    have hz : m 6 hd = 0 := by rw [← b1]; exact b2.resolve_right hne
    have hnx : ∃ h2, h2 < n ∧ f6_nextSeat c (nI hd) = some (nI h2) ∧ nI hd + nI 1 - (nI hd + nI 1) / nI n * nI n = nI h2 := by
      refine ⟨(hd + 1) % n, Nat.mod_lt _ (by omega), ?_, by rw [nI_add, rem_n (by omega) (by omega) (by omega)]⟩
      unfold f6_nextSeat
      rw [h7, z_1, nI_add]
      by_cases e : n ≤ hd + 1
      · rw [if_pos (show nI n ≤ nI (hd + 1) by rw [lep (by omega) (by omega)]; exact e), show hd + 1 = n by omega, Nat.mod_self]
        rfl
      · rw [if_neg (show ¬ nI n ≤ nI (hd + 1) by rw [lep (by omega) (by omega)]; exact e), Nat.mod_eq_of_lt (by omega)]
    obtain ⟨h2, x1, x2, x3⟩ := hnx
    have hj : f6_seatByHand_j50 c = some (nI hd, va_up c 0 (upd (c 0) 9 (nI h2))) := by
      unfold f6_seatByHand_j50
      rw [h9, x2]
      rfl
    refine ⟨hd, h2, va_up c 0 (upd (c 0) 9 (nI h2)), va_up m 0 (upd (m 0) 13 (nI h2)), hh, x1, ?_, ?_, fun o h1 h2 => up_n h1, fun j hj => by rw [up_s, ud_n hj], by rw [up_s, ud_s], fun o h1 h2 => up_n h1, fun j hj => by rw [up_s, ud_n hj], by rw [up_s, ud_s], fun s hs => by rw [up_n (by decide), up_n (by decide)]; exact h6 s hs⟩
    · show f6_seatByHand_b5 (f6_seatByHand_l5 n1) _ _ = _
      unfold f6_seatByHand_b5
      rw [hj, h9, rd_n (by omega) (by omega), if_neg hne]
      split <;> rfl
    · show f11_seatThatGoes_b5 (f11_seatThatGoes_l5 n2) _ _ = _
      unfold f11_seatThatGoes_b5 f11_seatThatGoes_j42
      rw [h13, rd_n (by omega) (by omega), hz, if_pos rfl, nzp (by omega) (by omega), z_1, x3]
      rfl
  | succ d ih =>
    intro w n1 n2 hd c m h0 hw hw3 hn1 hn2 hh h7 h9 h13 h6
    obtain ⟨n1, rfl⟩ : ∃ k, n1 = k + 1 := ⟨n1 - 1, by omega⟩
    obtain ⟨n2, rfl⟩ : ∃ k, n2 = k + 1 := ⟨n2 - 1, by omega⟩
    obtain ⟨b1, b2⟩ := h6 hd hh
    have hnx : ∀ c2 : Sg, c2 0 7 = nI n → ∃ h2, h2 < n ∧ f6_nextSeat c2 (nI hd) = some (nI h2) ∧ nI hd + nI 1 - (nI hd + nI 1) / nI n * nI n = nI h2 := by
      intro c2 h7
      refine ⟨(hd + 1) % n, Nat.mod_lt _ (by omega), ?_, by rw [nI_add, rem_n (by omega) (by omega) (by omega)]⟩
      unfold f6_nextSeat
      rw [h7, z_1, nI_add]
      by_cases e : n ≤ hd + 1
      · rw [if_pos (show nI n ≤ nI (hd + 1) by rw [lep (by omega) (by omega)]; exact e), show hd + 1 = n by omega, Nat.mod_self]
        rfl
      · rw [if_neg (show ¬ nI n ≤ nI (hd + 1) by rw [lep (by omega) (by omega)]; exact e), Nat.mod_eq_of_lt (by omega)]
    by_cases hone : c 6 hd = 1
    · obtain ⟨h2, x1, x2, x3⟩ := hnx (va_up c 6 (upd (c 6) hd 0)) (by rw [up_n (by decide)]; exact h7)
      have hcm := cm_s hone n hh
      obtain ⟨r, hd2, c2, m2, y1, y2, y3, y4, y5, y6, y7, y8, y9, y10, y11⟩ := ih (w - 1) n1 n2 h2 (va_up (va_up c 6 (upd (c 6) hd 0)) 0 (upd (c 0) 9 (nI h2))) (va_up (va_up m 6 (upd (m 6) hd 0)) 0 (upd (m 0) 13 (nI h2))) (by rw [up_n (by decide), up_s]; omega) (by omega) (by omega) (by omega) (by omega) x1 (by rw [up_s, ud_n (by decide)]; exact h7) (by rw [up_s, ud_s]) (by rw [up_s, ud_s]) (fun s hs => by
        rw [up_n (by decide), up_s, up_n (by decide), up_s]
        by_cases e : s = hd
        · rw [e, ud_s, ud_s]; exact ⟨rfl, Or.inl rfl⟩
        · rw [ud_n e, ud_n e]; exact h6 s hs)
      refine ⟨r, hd2, c2, m2, y1, y2, ?_, ?_, fun o h1 h2 => ?_, fun j hj => ?_, y7, fun o h1 h2 => ?_, fun j hj => ?_, y10, y11⟩
      · show f6_seatByHand_b5 (f6_seatByHand_l5 n1) _ _ = _
        unfold f6_seatByHand_b5
        rw [if_neg (show ¬ nI w ≤ 0 by rw [z_0, lep (by omega) (by omega)]; omega), h9, rd_n (by omega) (by omega), if_pos hone, wr_n (by omega) (by omega), cl_n (by omega), up_n (show (0 : Nat) ≠ 6 by decide), h9, x2, bd_e, st_e]
        have e3 : nI w + (-1 : Int32) = nI (w - 1) := sb_m1 (by omega)
        rw [e3]
        exact y3
      · show f11_seatThatGoes_b5 (f11_seatThatGoes_l5 n2) _ _ = _
        unfold f11_seatThatGoes_b5
        rw [h13, rd_n (by omega) (by omega), ← b1, hone, if_neg (show ¬ (1 : Int32) = 0 by decide), wr_n (by omega) (by omega), cl_n (by omega), nzp (by omega) (by omega), st_e, up_n (show (0 : Nat) ≠ 6 by decide), h13, z_1, x3]
        exact y4
      · rw [y5 o h1 h2, up_n h1, up_n h2]
      · rw [y6 j hj, up_s, ud_n hj]
      · rw [y8 o h1 h2, up_n h1, up_n h2]
      · rw [y9 j hj, up_s, ud_n hj]
    · have hz : m 6 hd = 0 := by rw [← b1]; exact b2.resolve_right hone
      obtain ⟨h2, x1, x2, x3⟩ := hnx c h7
      have hj : f6_seatByHand_j50 c = some (nI hd, va_up c 0 (upd (c 0) 9 (nI h2))) := by
        unfold f6_seatByHand_j50
        rw [h9, x2]
        rfl
      refine ⟨hd, h2, va_up c 0 (upd (c 0) 9 (nI h2)), va_up m 0 (upd (m 0) 13 (nI h2)), hh, x1, ?_, ?_, fun o h1 h2 => up_n h1, fun j hj => by rw [up_s, ud_n hj], by rw [up_s, ud_s], fun o h1 h2 => up_n h1, fun j hj => by rw [up_s, ud_n hj], by rw [up_s, ud_s], fun s hs => by rw [up_n (by decide), up_n (by decide)]; exact h6 s hs⟩
      · show f6_seatByHand_b5 (f6_seatByHand_l5 n1) _ _ = _
        unfold f6_seatByHand_b5
        rw [hj, h9, rd_n (by omega) (by omega), if_neg hone]
        split <;> rfl
      · show f11_seatThatGoes_b5 (f11_seatThatGoes_l5 n2) _ _ = _
        unfold f11_seatThatGoes_b5 f11_seatThatGoes_j42
        rw [h13, rd_n (by omega) (by omega), hz, if_pos rfl, nzp (by omega) (by omega), z_1, x3]
        rfl
