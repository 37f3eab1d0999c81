theorem half_n {v : Nat} (h : v < 1000000) : nI v / 2 = nI (v / 2) := by
  rw [show (2 : Int32) = nI 2 from rfl, pk_div (p31 h) (by decide) (by decide)]
theorem pk_ageI {r : Nat} (hr : r < 4) : ∀ (n i : Nat) (g : Sg), i ≤ 64 → 64 - i < n → (∀ c, c < 64 → ∃ v, g (r + 6) c = nI v ∧ v ≤ 15) →
    ∃ g2, (∀ rec2 : Int32 → Sg → Option Sg, f7_age_l12 rec2 n (nI r) (nI i) g = rec2 (nI (r + 1)) g2) ∧ (∀ o, o ≠ r + 6 → g2 o = g o) ∧ ∀ c v, c < 64 → g (r + 6) c = nI v → v ≤ 15 → g2 (r + 6) c = nI (if i ≤ c then v / 2 else v) := by
  intro n
  induction n with
  | zero => intro i g h1 h2; omega
  | succ n ih =>
    intro i g h1 h2 h6
    by_cases hi : 64 ≤ i
    · refine ⟨g, fun rec2 => ?_, fun _ _ => rfl, fun c v hc hv _ => ?_⟩
      · show f7_age_b12 rec2 (f7_age_l12 rec2 n) (nI r) (nI i) g = _
        unfold f7_age_b12
        rw [show (64 : Int32) = nI 64 from rfl, le_n (by decide) (by omega), if_pos hi, nI_1]
      · rw [hv, if_neg (by omega)]
    · obtain ⟨w, hw, hw15⟩ := h6 i (by omega)
      obtain ⟨g1, hg1⟩ : ∃ z, z = va_up g (r + 6) (upd (g (r + 6)) i (nI (w / 2))) := ⟨_, rfl⟩
      have a1 : ∀ o, o ≠ r + 6 → g1 o = g o := fun o ho => by rw [hg1, up_n ho]
      have a2 : ∀ c, c ≠ i → g1 (r + 6) c = g (r + 6) c := fun c hc => by rw [hg1, up_s, ud_n hc]
      have a3 : g1 (r + 6) i = nI (w / 2) := by rw [hg1, up_s, ud_s]
      obtain ⟨g2, e1, e2, e3⟩ := ih (i + 1) g1 (by omega) (by omega) (fun c hc => by
        by_cases hci : c = i
        · subst hci
          exact ⟨w / 2, a3, by omega⟩
        · rw [a2 c hci]
          exact h6 c hc)
      refine ⟨g2, fun rec2 => ?_, fun o ho => by rw [e2 o ho, a1 o ho], fun c v hc hv h15 => ?_⟩
      · show f7_age_b12 rec2 (f7_age_l12 rec2 n) (nI r) (nI i) g = _
        unfold f7_age_b12
        rw [show (64 : Int32) = nI 64 from rfl, le_n (by decide) (by omega), if_neg hi, ck_n (by omega) (by decide), cl_n (by omega), rd_n (by omega) (by decide), hw, wr_n (by omega) (by decide), cl_n (by omega), half_n (by omega), nI_1, ← hg1]
        exact e1 rec2
      · by_cases hci : c = i
        · subst hci
          have : v = w := (nI_eq (by omega) (by omega)).mp (hv.symm.trans hw)
          subst this
          rw [e3 c _ hc a3 (by omega), if_neg (by omega), if_pos (by omega)]
        · rw [e3 c v hc (by rw [a2 c hci]; exact hv) h15]
          congr 1
          by_cases h : i ≤ c
          · rw [if_pos (by omega), if_pos h]
          · rw [if_neg (by omega), if_neg h]
theorem pk_ageO {D : Nat} (hD : D ≤ 4) : ∀ (n r : Nat) (g : Sg), r ≤ D → D - r < n → g 0 5 = nI D → (∀ q c, q < 4 → c < 64 → ∃ v, g (q + 6) c = nI v ∧ v ≤ 15) →
    ∃ g2, f7_age_l2 n (nI r) g = f7_age_j42 g2 ∧ (∀ o, (o < 6 ∨ 10 ≤ o) → g2 o = g o) ∧ ∀ q c v, q < 4 → c < 64 → g (q + 6) c = nI v → v ≤ 15 → g2 (q + 6) c = nI (if r ≤ q ∧ q < D then v / 2 else v) := by
  intro n
  induction n with
  | zero => intro r g h1 h2; omega
  | succ n ih =>
    intro r g h1 h2 h5 h6
    show ∃ g2, f7_age_b2 (f7_age_l2 n) (nI r) g = f7_age_j42 g2 ∧ _
    unfold f7_age_b2
    rw [h5, le_n (by omega) (by omega)]
    by_cases hr : D ≤ r
    · rw [if_pos hr]
      exact ⟨g, rfl, fun _ _ => rfl, fun q c v hq hc hv _ => by rw [hv, if_neg (by omega)]⟩
    · rw [if_neg hr]
      obtain ⟨g1, f1, f2, f3⟩ := pk_ageI (r := r) (by omega) NF 0 g (by omega) (by show _ < 8000; omega) (fun c hc => h6 r c (by omega) hc)
      obtain ⟨g2, e1, e2, e3⟩ := ih (r + 1) g1 (by omega) (by omega) (by rw [f2 0 (by omega)]; exact h5) (fun q c hq hc => by
        by_cases hqr : q = r
        · subst hqr
          obtain ⟨v, hv, h15⟩ := h6 q c hq hc
          exact ⟨_, f3 c v hc hv h15, by split <;> omega⟩
        · rw [f2 _ (by omega)]
          exact h6 q c hq hc)
      refine ⟨g2, ?_, fun o ho => by rw [e2 o ho, f2 o (by omega)], fun q c v hq hc hv h15 => ?_⟩
      · have := f1 (f7_age_l2 n)
        rw [show (0 : Int32) = nI 0 from rfl, this]
        exact e1
      · by_cases hqr : q = r
        · subst hqr
          have hh := f3 c v hc hv h15
          rw [if_pos (by omega)] at hh
          rw [e3 q c _ hq hc hh (by omega), if_neg (by omega), if_pos (by omega)]
        · rw [e3 q c v hq hc (by rw [f2 _ (by omega)]; exact hv) h15]
          congr 1
          by_cases h : r ≤ q ∧ q < D
          · rw [if_pos (by omega), if_pos h]
          · rw [if_neg (by omega), if_neg h]
theorem pk_age {D : Nat} {A : AK} {g : Sg} (hA : okK D A) (hR : RJ D A g) : ∃ g2, f7_age g = some g2 ∧ RJ D (ageK A) g2 ∧ ∀ k, k < 100 → g2 5 k = 0 := by
  obtain ⟨hD1, hD4, hp, hd, hc, hz, hb1, hs0, hs1, hs2, hs3, hs4⟩ := hA
  obtain ⟨h1, h2, h3, h4, h5, h6, h7, h8, h9, h10⟩ := hR
  obtain ⟨g1, e1, e2, e3⟩ := pk_ageO hD4 NF 0 g (by omega) (by show _ < 8000; omega) h1 (fun q c hq hc2 => ⟨_, h9 q c hq hc2, hc q c hq hc2⟩)
  have e0 := e2 0 (by omega)
  refine ⟨_, e1.trans rfl, ⟨?_, ?_, ?_, ?_, ?_, ?_, fun r k hr hk => ?_, fun w k hw hk => ?_, fun r c hr hc2 => ?_, fun b hb => ?_⟩, fun k hk => ?_⟩
  · simp [va_up, upd, e0, h1]
  · simp [va_up, upd, e0, h2, ageK, kS]
  · simp [va_up, upd, e0, h3, ageK, kS]
  · simp [va_up, upd, e0, h4, ageK, kS]
  · have h4' : g1 0 8 = nI (kS A 2) := by rw [e0]; exact h4
    simp only [va_up, upd, h4']
    simp only [if_true, if_false, show ((9 : Nat) = 10) = False by simp, show ((0 : Nat) = 5) = False by simp, show ((0 : Nat) = 2) = False by simp, h4']
    rw [half_n (by omega)]
    rfl
  · have h6' : g1 0 10 = kG A := by rw [e0]; exact h6
    simp [va_up, upd, h6', ageK, kG]
  · have := e2 (r + 10) (by omega)
    simp only [va_up, show (r + 10 = 0) = False by simp, show (r + 10 = 5) = False by simp, show (r + 10 = 2) = False by simp, if_false, this]
    exact h7 r k hr hk
  · have := e2 (w + 14) (by omega)
    simp only [va_up, show (w + 14 = 0) = False by simp, show (w + 14 = 5) = False by simp, show (w + 14 = 2) = False by simp, if_false, this]
    exact h8 w k hw hk
  · have hh := e3 r c _ hr hc2 (h9 r c hr hc2) (hc r c hr hc2)
    simp only [va_up, show (r + 6 = 0) = False by simp, show (r + 6 = 5) = False by simp, show (r + 6 = 2) = False by simp, if_false, hh]
    congr 1
    show _ = kC A r c / 2
    by_cases hrD : r < D
    · rw [if_pos ⟨by omega, hrD⟩]
    · rw [if_neg (fun h => hrD h.2), hz r c (by omega) hr hc2]
  · simp [va_up, fl, hb, ageK, kB]
    rfl
  · simp [va_up, fl, hk]
