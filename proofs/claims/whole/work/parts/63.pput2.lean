theorem mnr_mono {A B : AK} {j : Nat} (hp : kP B = kP A) (h : ∀ r, kC A r (kP A r j) ≤ kC B r (kP A r j)) : ∀ n, mnr A j n ≤ mnr B j n
  | 0 => Nat.le_refl 15
  | n + 1 => by
    show min (kC A n (kP A n j)) (mnr A j n) ≤ min (kC B n (kP B n j)) (mnr B j n)
    rw [hp]
    have h1 := h n
    have h2 := mnr_mono hp h n
    omega
theorem grow_self {D : Nat} {A : AK} {k : Nat} : ∀ n, n ≤ D → min 15 (mnr A k D + 1) ≤ mnr (growK D A k) k n
  | 0, _ => by show _ ≤ 15; omega
  | n + 1, h => by
    have h2 := grow_self (D := D) (A := A) (k := k) n (by omega)
    have h3 : min 15 (mnr A k D + 1) ≤ kC (growK D A k) n (kP (growK D A k) n k) := by
      show _ ≤ if n < D then grC A k (limK D A k) n (kP A n k) else kC A n (kP A n k)
      rw [if_pos (by omega)]
      have h4 := mnr_at A k D n (by omega)
      unfold grC limK
      by_cases q : kS A 1 = 1
      · rw [if_pos q]
        split <;> omega
      · rw [if_neg q]
        split <;> omega
    show _ ≤ min (kC (growK D A k) n (kP (growK D A k) n k)) (mnr (growK D A k) k n)
    omega
theorem est_inc {D : Nat} {A : AK} {j : Nat} : est D (incK A) j = est D A j := by
  have h : ∀ n, mnr (incK A) j n = mnr A j n := by
    intro n
    induction n with
    | zero => rfl
    | succ n ih =>
      show min (kC A n (kP A n j)) (mnr (incK A) j n) = _
      rw [ih]
      rfl
  unfold est
  rw [h]
  rfl
theorem thr_bit {A : AK} {k j : Nat} (h : thr A j = true) : thr (bitK A k) j = true := by
  simp only [thr, Bool.and_eq_true, decide_eq_true_eq] at h ⊢
  show (if kD A 0 j = kD A 0 k ∨ kD A 0 j = kD A 1 k then 1 else kB A (kD A 0 j)) = 1 ∧ (if kD A 1 j = kD A 0 k ∨ kD A 1 j = kD A 1 k then 1 else kB A (kD A 1 j)) = 1
  rw [h.1, h.2]
  constructor <;> split <;> rfl
theorem thr_bitS {A : AK} {k : Nat} : thr (bitK A k) k = true := by
  simp only [thr, Bool.and_eq_true, decide_eq_true_eq]
  show (if kD A 0 k = kD A 0 k ∨ kD A 0 k = kD A 1 k then 1 else kB A (kD A 0 k)) = 1 ∧ (if kD A 1 k = kD A 0 k ∨ kD A 1 k = kD A 1 k then 1 else kB A (kD A 1 k)) = 1
  simp
theorem mnr_bit {A : AK} {k j : Nat} : ∀ n, mnr (bitK A k) j n = mnr A j n
  | 0 => rfl
  | n + 1 => by
    show min (kC A n (kP A n j)) (mnr (bitK A k) j n) = _
    rw [mnr_bit n]
    rfl
/-- no estimate falls; that of the key added grows, or is 15 -/
theorem est_step {D : Nat} {A : AK} {k j : Nat} : est D A j ≤ est D (stepK D A k) j := by
  unfold stepK
  split
  · rename_i h
    unfold est
    rw [mnr_bit]
    show _ ≤ mnr A j D + (if kS A 0 = 1 ∧ thr (bitK A k) j = true then 1 else 0)
    by_cases q : kS A 0 = 1 ∧ thr A j = true
    · rw [if_pos q, if_pos ⟨q.1, thr_bit q.2⟩]
      exact Nat.le_refl _
    · rw [if_neg q]
      omega
  · have h1 : mnr A j D ≤ mnr (growK D A k) j D := mnr_mono (A := A) (B := growK D A k) (j := j) rfl (fun r => by
      show _ ≤ if r < D then grC A k (limK D A k) r (kP A r j) else kC A r (kP A r j)
      split
      · exact grC_ge
      · exact Nat.le_refl _) D
    unfold est
    show _ ≤ mnr (growK D A k) j D + (if kS A 0 = 1 ∧ thr A j = true then 1 else 0)
    omega
theorem est_stepS {D : Nat} {A : AK} {k : Nat} : min 15 (est D A k + 1) ≤ est D (stepK D A k) k := by
  unfold stepK
  split
  · rename_i h
    unfold est
    rw [mnr_bit, if_neg (fun q => by rw [h.2] at q; exact absurd q.2 (by decide))]
    show _ ≤ mnr A k D + (if kS A 0 = 1 ∧ thr (bitK A k) k = true then 1 else 0)
    rw [if_pos ⟨h.1, thr_bitS⟩]
    omega
  · have h1 := grow_self (D := D) (A := A) (k := k) D (Nat.le_refl D)
    unfold est
    show _ ≤ mnr (growK D A k) k D + (if kS A 0 = 1 ∧ thr A k = true then 1 else 0)
    split <;> omega
theorem ok_inc {D : Nat} {A : AK} (h : okK D A) (h3 : kS A 3 ≤ 1000) : okK D (incK A) := by
  obtain ⟨a1, a2, a3, a4, a5, a6, a7, a8, a9, a10, a11, -⟩ := h
  exact ⟨a1, a2, a3, a4, a5, a6, a7, a8, a9, a10, a11, by show kS A 3 + 1 ≤ 1001; omega⟩
theorem ok_step {D : Nat} {A : AK} {k : Nat} (hk : k < 100) (h : okK D A) : okK D (stepK D A k) := by
  obtain ⟨a1, a2, a3, a4, a5, a6, a7, a8, a9, a10, a11, a12⟩ := h
  unfold stepK
  split
  · refine ⟨a1, a2, a3, a4, a5, a6, fun b hb => ?_, a8, a9, a10, a11, a12⟩
    show (if b = kD A 0 k ∨ b = kD A 1 k then 1 else kB A b) ≤ 1
    split
    · omega
    · exact a7 b hb
  · refine ⟨a1, a2, a3, a4, fun r c hr hc => ?_, fun r c hD hr hc => ?_, a7, a8, a9, a10, a11, a12⟩
    · show (if r < D then grC A k (limK D A k) r c else kC A r c) ≤ 15
      split
      · exact grC_le (a5 r c hr hc)
      · exact a5 r c hr hc
    · show (if r < D then grC A k (limK D A k) r c else kC A r c) = 0
      rw [if_neg (by omega)]
      exact a6 r c hD hr hc
theorem ok_end {D : Nat} {A : AK} (h : okK D A) : okK D (endK A) ∧ kS (endK A) 3 ≤ 1000 := by
  obtain ⟨a1, a2, a3, a4, a5, a6, a7, a8, a9, a10, a11, a12⟩ := h
  unfold endK
  split
  · exact ⟨⟨a1, a2, a3, a4, a5, a6, a7, a8, a9, a10, a11, a12⟩, by omega⟩
  · refine ⟨⟨a1, a2, a3, a4, fun r c hr hc => ?_, fun r c hD hr hc => ?_, fun b hb => Nat.zero_le 1, a8, a9, a10, a11, ?_⟩, ?_⟩
    · have := a5 r c hr hc
      show kC A r c / 2 ≤ 15
      omega
    · have := a6 r c hD hr hc
      show kC A r c / 2 = 0
      omega
    · show kS A 2 / 2 ≤ 1001
      omega
    · show kS A 2 / 2 ≤ 1000
      omega
theorem ok_add {D : Nat} {A : AK} {k : Nat} (hk : k < 100) (h : okK D A) (h3 : kS A 3 ≤ 1000) : okK D (addK D A k) ∧ kS (addK D A k) 3 ≤ 1000 := ok_end (ok_step hk (ok_inc h h3))
theorem pk_put72 {D : Nat} {A : AK} {g : Sg} (hA : okK D A) (hR : RJ D A g) (hT : ∀ k, k < 100 → ∃ t, g 5 k = nI t ∧ t ≤ kS A 3 ∧ min 15 t ≤ est D A k) : ∃ g2, f7_put_j72 g = some g2 ∧ RK D (endK A) g2 := by
  have h9 := hR.2.2.2.2.1
  have h8 := hR.2.2.2.1
  have b2 := hA.2.2.2.2.2.2.2.2.2.2.1
  have b3 := hA.2.2.2.2.2.2.2.2.2.2.2
  unfold f7_put_j72 endK
  rw [h9, h8, lt_n (by omega) (by omega)]
  by_cases h : kS A 3 < kS A 2
  · rw [if_pos h, if_pos h]
    obtain ⟨c1, c2, c3, c4, c5, c6, c7, c8, c9, c10⟩ := hR
    exact ⟨g, rfl, c1, c2, c3, c4, c5, c6, c7, c8, c9, c10, hT⟩
  · rw [if_neg h, if_neg h]
    obtain ⟨g2, e1, e2, e3⟩ := pk_age hA hR
    obtain ⟨c1, c2, c3, c4, c5, c6, c7, c8, c9, c10⟩ := e2
    refine ⟨g2, by rw [e1]; rfl, c1, c2, c3, c4, c5, c6, c7, c8, c9, c10, fun k hk => ⟨0, e3 k hk, Nat.zero_le _, Nat.zero_le _⟩⟩
theorem pk_put {D : Nat} {A : AK} {g : Sg} (hA : okK D A) (h3 : kS A 3 ≤ 1000) (hR : RK D A g) {k : Nat} (hk : k < 100) : ∃ g2, f7_put (nI k) g = some g2 ∧ RK D (addK D A k) g2 := by
  have hd := hA.2.2.2.1
  have hd0 := hd 0 k (by decide) hk
  have hd1 := hd 1 k (by decide) hk
  have hs0 := hA.2.2.2.2.2.2.2.1
  obtain ⟨tk, ht1, ht2, ht3⟩ := hR.2.2.2.2.2.2.2.2.2.2 k hk
  obtain ⟨g1, hg1⟩ : ∃ z, z = va_up g 0 (upd (g 0) 9 (nI (kS A 3 + 1))) := ⟨_, rfl⟩
  obtain ⟨g2, hg2⟩ : ∃ z, z = va_up g1 5 (upd (g1 5) k (nI (tk + 1))) := ⟨_, rfl⟩
  have a0 : ∀ o, o ≠ 0 → g1 o = g o := fun o ho => by rw [hg1, up_n ho]
  have a1 : ∀ i, i ≠ 9 → g1 0 i = g 0 i := fun i hi => by rw [hg1, up_s, ud_n hi]
  have a2 : g1 0 9 = nI (kS A 3 + 1) := by rw [hg1, up_s, ud_s]
  have b0 : ∀ o, o ≠ 5 → g2 o = g1 o := fun o ho => by rw [hg2, up_n ho]
  have b1 : ∀ i, i ≠ k → g2 5 i = g 5 i := fun i hi => by rw [hg2, up_s, ud_n hi, a0 5 (by decide)]
  have b2 : g2 5 k = nI (tk + 1) := by rw [hg2, up_s, ud_s]
  have hJ : RJ D (incK A) g2 := by
    obtain ⟨c1, c2, c3, c4, c5, c6, c7, c8, c9, c10, -⟩ := hR
    refine ⟨?_, ?_, ?_, ?_, ?_, ?_, fun r k hr hk => ?_, fun w k hw hk => ?_, fun r c hr hc => ?_, fun b hb => ?_⟩
    · rw [b0 0 (by decide), a1 5 (by decide)]; exact c1
    · rw [b0 0 (by decide), a1 6 (by decide)]; exact c2
    · rw [b0 0 (by decide), a1 7 (by decide)]; exact c3
    · rw [b0 0 (by decide), a1 8 (by decide)]; exact c4
    · rw [b0 0 (by decide), a2]; rfl
    · rw [b0 0 (by decide), a1 10 (by decide)]; exact c6
    · rw [b0 _ (by omega), a0 _ (by omega)]; exact c7 r k hr hk
    · rw [b0 _ (by omega), a0 _ (by omega)]; exact c8 w k hw hk
    · rw [b0 _ (by omega), a0 _ (by omega)]; exact c9 r c hr hc
    · rw [b0 2 (by decide), a0 2 (by decide)]; exact c10 b hb
  have hO := ok_inc hA h3
  have hTs : ∀ j, j < 100 → ∃ t, g2 5 j = nI t ∧ t ≤ kS (stepK D (incK A) k) 3 ∧ min 15 t ≤ est D (stepK D (incK A) k) j := by
    intro j hj
    have hS3 : kS (stepK D (incK A) k) 3 = kS A 3 + 1 := by
      unfold stepK
      split <;> rfl
    by_cases e : j = k
    · subst e
      refine ⟨tk + 1, b2, by omega, ?_⟩
      have h1 := est_stepS (D := D) (A := incK A) (k := j)
      rw [est_inc] at h1
      omega
    · obtain ⟨t, t1, t2, t3⟩ := hR.2.2.2.2.2.2.2.2.2.2 j hj
      refine ⟨t, by rw [b1 j e]; exact t1, by omega, ?_⟩
      have h1 := est_step (D := D) (A := incK A) (k := k) (j := j)
      rw [est_inc] at h1
      omega
  have hthr : thr (incK A) k = thr A k := rfl
  have hst : ∀ g3, RJ D (stepK D (incK A) k) g3 → g3 5 = g2 5 → ∃ g4, f7_put_j72 g3 = some g4 ∧ RK D (addK D A k) g4 := by
    intro g3 h1 h2
    exact pk_put72 (ok_step hk hO) h1 (fun j hj => by rw [h2]; exact hTs j hj)
  have hgrow : ¬ (kS (incK A) 0 = 1 ∧ thr (incK A) k = false) → ∃ g4, f7_put_j67 (nI k) g2 = some g4 ∧ RK D (addK D A k) g4 := by
    intro hn
    obtain ⟨g3, e1, e2, e3⟩ := pk_grow hO hJ hk
    have hs : stepK D (incK A) k = growK D (incK A) k := if_neg hn
    obtain ⟨g4, f1, f2⟩ := hst g3 (by rw [hs]; exact e2) e3
    refine ⟨g4, ?_, f2⟩
    unfold f7_put_j67
    rw [e1, bd_e]
    exact f1
  have hc9 : g 0 9 = nI (kS A 3) := hR.2.2.2.2.1
  unfold f7_put
  rw [st_e, hc9, nI_1, ← hg1, rd_n hk (by decide), a0 5 (by decide), ht1, nI_1, wr_n hk (by decide), cl_n (by omega), show va_up g1 5 (upd (g 5) k (nI (tk + 1))) = g2 by rw [hg2, a0 5 (by decide)], hJ.2.1, show (1 : Int32) = nI 1 from rfl, eq_n (by show kS A 0 < _; omega) (by decide), pk_pdJ hO hJ hk, bd_e]
  by_cases q0 : kS (incK A) 0 = 1
  · rw [if_pos q0]
    by_cases q1 : thr (incK A) k = true
    · rw [if_pos q1, if_neg (by decide)]
      exact hgrow (fun h => by rw [q1] at h; exact absurd h.2 (by decide))
    · have q1 : thr (incK A) k = false := by simpa using q1
      rw [q1, if_neg (show ¬ (false = true) by decide), if_pos rfl]
      have hs : stepK D (incK A) k = bitK (incK A) k := if_pos ⟨q0, q1⟩
      obtain ⟨g5, hg5⟩ : ∃ z, z = va_up g2 2 (upd (g2 2) (kD A 0 k) (nI 1)) := ⟨_, rfl⟩
      obtain ⟨g6, hg6⟩ : ∃ z, z = va_up g5 2 (upd (g5 2) (kD A 1 k) (nI 1)) := ⟨_, rfl⟩
      have d0 : ∀ o, o ≠ 2 → g5 o = g2 o := fun o ho => by rw [hg5, up_n ho]
      have d1 : ∀ o, o ≠ 2 → g6 o = g2 o := fun o ho => by rw [hg6, up_n ho, d0 o ho]
      have d14 : g2 14 k = nI (kD A 0 k) := hJ.2.2.2.2.2.2.2.1 0 k (by decide) hk
      have d15 : g2 15 k = nI (kD A 1 k) := hJ.2.2.2.2.2.2.2.1 1 k (by decide) hk
      have hJ6 : RJ D (stepK D (incK A) k) g6 := by
        rw [hs]
        obtain ⟨c1, c2, c3, c4, c5, c6, c7, c8, c9, c10⟩ := hJ
        refine ⟨by rw [d1 0 (by decide)]; exact c1, by rw [d1 0 (by decide)]; exact c2, by rw [d1 0 (by decide)]; exact c3, by rw [d1 0 (by decide)]; exact c4, by rw [d1 0 (by decide)]; exact c5, by rw [d1 0 (by decide)]; exact c6, fun r k hr hk => by rw [d1 _ (by omega)]; exact c7 r k hr hk, fun w k hw hk => by rw [d1 _ (by omega)]; exact c8 w k hw hk, fun r c hr hc => by rw [d1 _ (by omega)]; exact c9 r c hr hc, fun b hb => ?_⟩
        show _ = nI (if b = kD A 0 k ∨ b = kD A 1 k then 1 else kB A b)
        rw [hg6, up_s]
        by_cases e1 : b = kD A 1 k
        · rw [e1, ud_s, if_pos (Or.inr rfl)]
        · rw [ud_n e1, hg5, up_s]
          by_cases e0 : b = kD A 0 k
          · rw [e0, ud_s, if_pos (Or.inl rfl)]
          · rw [ud_n e0, if_neg (fun h => h.elim e0 e1)]
            exact c10 b hb
      obtain ⟨g7, f1, f2⟩ := hst g6 hJ6 (d1 5 (by decide))
      refine ⟨g7, ?_, f2⟩
      rw [show (0 : Int32) = nI 0 from rfl, ck_n (by decide) (by decide), cl_n (by decide), rd_n hk (by decide), show (0 : Nat) + 14 = 14 from rfl, d14, wr_n hd0 (by decide), cl_n (by omega), ← hg5, ck_n (by decide) (by decide), cl_n (by decide), rd_n hk (by decide), show (1 : Nat) + 14 = 15 from rfl, d0 15 (by decide), d15, wr_n hd1 (by decide), cl_n (by omega), ← hg6]
      exact f1
  · rw [if_neg q0]
    exact hgrow (fun h => q0 h.1)
