/-! the reference's sketch -/
theorem lit (n : Nat) : (OfNat.ofNat n : Int32) = nI n := rfl
def RN (A : AK) (x : Nat → Int32) : Prop := (∀ r k, r < 4 → k < 100 → x (100 * r + k) = nI (kP A r k)) ∧ (∀ w k, w < 2 → k < 100 → x (400 + 100 * w + k) = nI (kD A w k)) ∧ x 600 = nI (kS A 0) ∧ x 601 = nI (kS A 1) ∧ x 602 = nI (kS A 2) ∧ (∀ r c, r < 4 → c < 64 → x (606 + 64 * r + c) = nI (kC A r c)) ∧ (∀ b, b < 128 → x (862 + b) = nI (kB A b)) ∧ x 1395 = nI (kS A 3) ∧ x 1396 = kG A
def RT (D : Nat) (A : AK) (x : Nat → Int32) : Prop := ∀ k, k < 100 → ∃ t, x (1705 + k) = nI t ∧ t ≤ kS A 3 ∧ min 15 t ≤ est D A k
/-- what counting leaves as it was -/
def KF (x y : Nat → Int32) : Prop := ∀ j, (j < 606 ∨ (990 ≤ j ∧ j < 1395) ∨ (1397 ≤ j ∧ j < 1705)) → y j = x j
theorem pm_cell {A : AK} {g : Sg} (hR : RN A (g 1)) {r k : Nat} (hr : r < 4) (hk : k < 100) : f11_cell g (nI r) (nI k) = some (nI (606 + 64 * r + kP A r k)) := by
  unfold f11_cell
  simp only [lit, nI_add, pk_mul]
  rw [rd_n (by omega) (by decide), Nat.zero_add, hR.1 r k hr hk, nI_add]
theorem pm_thr {D : Nat} {A : AK} {g : Sg} (hA : okK D A) (hR : RN A (g 1)) {k : Nat} (hk : k < 100) : f11_isThrough g (nI k) = some (if thr A k = true then 1 else 0) := by
  obtain ⟨-, -, -, hd, -, -, hb1, -⟩ := hA
  obtain ⟨-, h4, -, -, -, -, h8, -⟩ := hR
  have hd0 := hd 0 k (by decide) hk
  have hd1 := hd 1 k (by decide) hk
  have c0 := hb1 _ hd0
  have c1 := hb1 _ hd1
  have e0 : g 1 (400 + k) = nI (kD A 0 k) := h4 0 k (by decide) hk
  have e1 : g 1 (500 + k) = nI (kD A 1 k) := h4 1 k (by decide) hk
  unfold f11_isThrough
  simp only [lit, nI_add]
  rw [rd_n (by omega) (by decide), e0, nI_add, rd_n (by omega) (by decide), h8 _ hd0, eq_n (by omega) (by decide), rd_n (by omega) (by decide), e1, nI_add, rd_n (by omega) (by decide), h8 _ hd1, eq_n (by omega) (by decide)]
  unfold thr
  by_cases q0 : kB A (kD A 0 k) = 1
  · by_cases q1 : kB A (kD A 1 k) = 1
    · simp [q0, q1]
    · simp [q0, q1]
  · simp [q0]
theorem pm_sm {D : Nat} {A : AK} {g : Sg} (hA : okK D A) (h0 : g 0 0 = nI D) (hR : RN A (g 1)) {k : Nat} (hk : k < 100) : f11_smallest g (nI k) = some (nI (mnr A k D)) := by
  have hA0 := hA
  obtain ⟨hD1, hD4, hp, -, hc, -⟩ := hA
  have H : ∀ (n r m : Nat), 1 ≤ r → r ≤ D → D - r < n → m = mnr A k r → f11_smallest_l5 g n (nI k) (nI m) (nI r) = some (nI (mnr A k D)) := by
    intro n
    induction n with
    | zero => intro r m h1 h2 h3; omega
    | succ n ih =>
      intro r m hr1 h1 h2 hm
      show f11_smallest_b5 g (f11_smallest_l5 g n) (nI k) (nI m) (nI r) = _
      unfold f11_smallest_b5
      rw [h0, le_n (by omega) (by omega)]
      by_cases hr : D ≤ r
      · rw [if_pos hr, hm, show r = D by omega]
      · have hpl := hp r k (by omega) hk
        have hcl := hc r _ (show r < 4 by omega) hpl
        have hml := mnr_le A k r
        rw [if_neg hr, pm_cell hR (by omega) hk, bd_e, rd_n (by omega) (by decide), hR.2.2.2.2.2.1 r _ (by omega) hpl, le_n (by omega) (by omega), bd_e, rd_n (by omega) (by decide), hR.2.2.2.2.2.1 r _ (by omega) hpl, nI_1]
        by_cases hle : m ≤ kC A r (kP A r k)
        · rw [if_pos hle]
          exact ih (r + 1) m (by omega) (by omega) (by omega) (by show m = min (kC A r (kP A r k)) (mnr A k r); omega)
        · rw [if_neg hle]
          exact ih (r + 1) _ (by omega) (by omega) (by omega) (by show _ = min (kC A r (kP A r k)) (mnr A k r); omega)
  have hpl := hp 0 k (by omega) hk
  have hcl := hc 0 _ (by decide) hpl
  show f11_smallest_b5 g (f11_smallest_l5 g 7999) (nI k) (nI 99) (nI 0) = _
  unfold f11_smallest_b5
  rw [h0, le_n (by omega) (by decide), if_neg (by omega), pm_cell hR (by decide) hk, bd_e, rd_n (by omega) (by decide), hR.2.2.2.2.2.1 0 _ (by decide) hpl, le_n (by decide) (by omega), if_neg (by omega), bd_e, rd_n (by omega) (by decide), hR.2.2.2.2.2.1 0 _ (by decide) hpl, nI_1]
  exact H 7999 1 _ (by decide) (by omega) (by omega) (by show _ = min (kC A 0 (kP A 0 k)) 15; omega)
theorem pm_est {D : Nat} {A : AK} {g : Sg} (hA : okK D A) (h0 : g 0 0 = nI D) (hR : RN A (g 1)) {k : Nat} (hk : k < 100) : f11_estimated g (nI k) = some (nI (est D A k)) := by
  have hs0 := hA.2.2.2.2.2.2.2.1
  unfold f11_estimated
  rw [pm_sm hA h0 hR hk, bd_e]
  simp only [lit, nI_add]
  rw [rd_n (by decide) (by decide), hR.2.2.1, eq_n (by omega) (by decide), pm_thr hA hR hk, bd_e]
  unfold est
  by_cases q0 : kS A 0 = 1
  · by_cases q1 : thr A k = true
    · simp [q0, q1, nI]
    · simp [q0, q1, nI]
  · simp [q0]
/-- the reference forgets how often keys were added -/
theorem pm_forget : ∀ (n i : Nat) (g : Sg), i ≤ 100 → 100 - i < n → ∃ g2, f11_forgetTimes_l2 n (nI i) g = some g2 ∧ (∀ o, o ≠ 1 → g2 o = g o) ∧ (∀ j, (j < 1705 + i ∨ 1805 ≤ j) → g2 1 j = g 1 j) ∧ ∀ j, i ≤ j → j < 100 → g2 1 (1705 + j) = 0 := by
  intro n
  induction n with
  | zero => intro i g h1 h2; omega
  | succ n ih =>
    intro i g h1 h2
    show ∃ g2, f11_forgetTimes_b2 (f11_forgetTimes_l2 n) (nI i) g = some g2 ∧ _
    unfold f11_forgetTimes_b2
    simp only [lit, nI_add]
    rw [le_n (by decide) (by omega)]
    by_cases hi : 100 ≤ i
    · rw [if_pos hi]
      exact ⟨g, rfl, fun _ _ => rfl, fun _ _ => rfl, fun j h1 h2 => by omega⟩
    · rw [if_neg hi, wr_n (by omega) (by decide), cl_n (by omega)]
      obtain ⟨g1, hg1⟩ : ∃ z, z = va_up g 1 (upd (g 1) (1705 + i) (nI 0)) := ⟨_, rfl⟩
      rw [← hg1]
      obtain ⟨g2, e1, e2, e3, e4⟩ := ih (i + 1) g1 (by omega) (by omega)
      refine ⟨g2, e1, fun o ho => by rw [e2 o ho, hg1, up_n ho], fun j hj => ?_, fun j h3 h4 => ?_⟩
      · rw [e3 j (by omega), hg1, up_s, ud_n (by omega)]
      · by_cases e : j = i
        · subst e
          rw [e3 _ (by omega), hg1, up_s, ud_s]
        · exact e4 j (by omega) h4
