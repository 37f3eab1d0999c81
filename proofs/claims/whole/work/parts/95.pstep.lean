theorem bz_0 {α : Type} {k : Option α} : bz (0 : Int32) k = k := if_pos (Or.inl rfl)
theorem bz_1 {α : Type} {k : Option α} : bz (1 : Int32) k = k := if_pos (Or.inr rfl)
/-- a seat for a key that has none -/
theorem se_free {T : List Nat} {e pi n i t hd : Nat} {ke : Nat → Nat} {c m : Sg} (he : e ≤ T.length) (hT : T.length ≤ 300) (hb : ∀ j, j ∈ T → j < 100) (hx : ∀ i, i < T.length → m 1 (1405 + i) = nI (gt T i)) (hi : i < e) (hpi : pi < 5) (hn1 : 1 ≤ n) (h : SE T e pi n i t hd ke c m) (hn : ∀ s, s < t → ¬ gt T i = ke s) :
    ∃ s t2 hd2 c1 m1, f6_freeSeat c = some (nI s, c1) ∧ (∀ (J : Int32 → Sg → Option (Int32 × Sg)), (if nI n ≤ m 0 12 then b2 (f11_seatThatGoes (nI pi) (nI n) (nI i) (nI e) m) (fun r g => J r g) else st (va_up m 0 (upd (m 0) 12 (m 0 12 + 1))) (fun g => J (m 0 12) g)) = J (nI s) m1) ∧ s < t2 ∧ (t2 = t ∨ (t2 = t + 1 ∧ s = t)) ∧ t2 ≤ n ∧ hd2 < n ∧ (c1 0 0 = nI pi ∧ c1 0 7 = nI n ∧ c1 0 8 = nI t2 ∧ c1 0 9 = nI hd2 ∧ m1 0 12 = nI t2 ∧ m1 0 13 = nI hd2) ∧ (∀ o, 1 ≤ o → o ≤ 5 → c1 o = c o) ∧ (∀ o, o ≠ 0 → o ≠ 6 → m1 o = m o) ∧ (∀ j, j < 12 → m1 0 j = m 0 j) ∧ ∀ q, q < t → c1 6 q = m1 6 q ∧ (c1 6 q = 0 ∨ c1 6 q = 1) := by
  have hSE := h
  obtain ⟨⟨h1, h2, h3, h4, h5, h6⟩, ⟨h7, h8, h9⟩, h10, h11⟩ := h
  by_cases ht : t < n
  · refine ⟨t, t + 1, hd, va_up c 0 (upd (c 0) 8 (nI (t + 1))), va_up m 0 (upd (m 0) 12 (nI (t + 1))), ?_, fun J => ?_, by omega, Or.inr ⟨rfl, rfl⟩, by omega, h8, ⟨?_, ?_, ?_, ?_, ?_, ?_⟩, fun o ho _ => up_n (by omega), fun o ho _ => up_n ho, fun j hj => by rw [up_s, ud_n (by omega)], fun q hq => ?_⟩
    · unfold f6_freeSeat
      rw [h2, h3, if_neg (show ¬ nI n ≤ nI t by rw [lep (by omega) (by omega)]; omega), st_e, up_s, z_1, nI_add, ud_s, pk_sub (by omega), Nat.add_sub_cancel]
    · rw [h5, if_neg (show ¬ nI n ≤ nI t by rw [lep (by omega) (by omega)]; omega), st_e, z_1, nI_add]
    · rw [up_s, ud_n (by decide)]; exact h1
    · rw [up_s, ud_n (by decide)]; exact h2
    · rw [up_s, ud_s]
    · rw [up_s, ud_n (by decide)]; exact h4
    · rw [up_s, ud_s]
    · rw [up_s, ud_n (by decide)]; exact h6
    · rw [up_n (by decide), up_n (by decide)]
      exact ⟨(h10 q hq).2.2.2.2.2.2.1, (h10 q hq).2.2.2.2.2.2.2.1⟩
  · have htn : t = n := by omega
    subst htn
    by_cases hp2 : pi = 2
    · subst hp2
      obtain ⟨r, hd2, c2, m2, y1, y2, y3, y4, y5, y6, y7, y8, y9, y10, y11⟩ := se_hand (n := t) (t := t) h9 _ t NF NF hd c m rfl (cm_le t) h9 (by have := cm_le (z := c 6) t; show _ < 8000; omega) (by have := cm_le (z := c 6) t; show _ < 8000; omega) h8 h2 h4 h6 (fun s hs => ⟨(h10 s hs).2.2.2.2.2.2.1, (h10 s hs).2.2.2.2.2.2.2.1⟩)
      refine ⟨r, t, hd2, c2, m2, ?_, fun J => ?_, y1, Or.inl rfl, Nat.le_refl _, y2, ⟨?_, ?_, ?_, y7, ?_, y10⟩, fun o ho ho5 => y5 o (by omega) (by omega), y8, fun j hj => y9 j (by omega), y11⟩
      · unfold f6_freeSeat f6_seatByHand
        rw [h2, h3, if_pos (show nI t ≤ nI t by rw [lep (by omega) (by omega)]; omega), h1, if_pos (show nI 2 = 2 from rfl), y3]
        rfl
      · rw [h5, if_pos (show nI t ≤ nI t by rw [lep (by omega) (by omega)]; omega)]
        unfold f11_seatThatGoes
        rw [if_pos (show nI 2 = 2 from rfl), y4]
        rfl
      · rw [y6 _ (by decide)]; exact h1
      · rw [y6 _ (by decide)]; exact h2
      · rw [y6 _ (by decide)]; exact h3
      · rw [y9 _ (by decide)]; exact h5
    · obtain ⟨r, y1, y2, y3⟩ := se_rankL he hT hb hx hi hpi hp2 hSE hn (t - 1) 1 0 NF NF rfl (by omega) (by show _ < 8000; omega) (by show _ < 8000; omega) (by omega)
      have hpn : ¬ nI pi = 2 := by rw [z_2, eqp (by omega) (by omega)]; exact hp2
      refine ⟨r, t, hd, c, m, ?_, fun J => ?_, y1, Or.inl rfl, Nat.le_refl _, h8, ⟨h1, h2, h3, h4, h5, h6⟩, fun o _ _ => rfl, fun o _ _ => rfl, fun j _ => rfl, fun q hq => ⟨(h10 q hq).2.2.2.2.2.2.1, (h10 q hq).2.2.2.2.2.2.2.1⟩⟩
      · unfold f6_freeSeat f6_seatByRank
        rw [h2, h3, if_pos (show nI t ≤ nI t by rw [lep (by omega) (by omega)]; omega), h1, if_neg hpn]
        rw [show f6_seatByRank_l4 c NF 0 1 = some (nI r) from y2]
        rfl
      · rw [h5, if_pos (show nI t ≤ nI t by rw [lep (by omega) (by omega)]; omega)]
        unfold f11_seatThatGoes
        rw [if_neg hpn, show f11_seatThatGoes_l69 NF (nI pi) (nI i) (nI e) 0 1 m = some (nI r, m) from y3]
        rfl
/-- one key of the trace is asked for -/
theorem se_step {T : List Nat} {e pi n i t hd : Nat} {ke : Nat → Nat} {c m : Sg} (he : e ≤ T.length) (hT : T.length ≤ 300) (hb : ∀ j, j ∈ T → j < 100) (hx : ∀ i, i < T.length → m 1 (1405 + i) = nI (gt T i)) (hi : i < e) (hpi : pi < 5) (hn1 : 1 ≤ n) (h : SE T e pi n i t hd ke c m) :
    ∃ r t2 hd2 ke2 c2 m2, r ≤ 1 ∧ f6_asks (nI (gt T i)) (nI i) (nI (fu T e (gt T i) (i + 1))) c = some (nI r, c2) ∧ (∀ rec w5, f11_played_b16 rec (nI pi) (nI n) (nI e) w5 (nI i) m = rec (nI pi) (nI n) (nI e) (w5 + nI r) (nI (i + 1)) m2) ∧ SE T e pi n (i + 1) t2 hd2 ke2 c2 m2 ∧ MF m m2 ∧ c2 0 0 = c 0 0 := by
  have hk : gt T i < 100 := hb _ (gt_mem (by omega))
  have hSE := h
  obtain ⟨⟨h1, h2, h3, h4, h5, h6⟩, ⟨h7, h8, h9⟩, h10, h11⟩ := h
  have hrd : ∀ {β : Type} (q : Int32 → Option β), rd 1805 (m 1) ((1405 : Int32) + nI i) q = q (nI (gt T i)) := fun q => by
    rw [z_1405, nI_add, rd_n (by omega) (by omega), hx i (by omega)]
  by_cases hin : ∃ s, s < t ∧ ke s = gt T i
  · obtain ⟨s, hs, hsk⟩ := hin
    obtain ⟨o1, o2⟩ := se_in hSE hk hs hsk
    have s30 : s < 30 := by omega
    obtain ⟨a1, a2, a3, a4, a5, a6, a7, a8, a9⟩ := h10 s hs
    refine ⟨1, t, hd, ke, va_up (va_up (va_up (va_up c 6 (upd (c 6) s 1)) 3 (upd (c 3) s (nI i))) 4 (upd (c 4) s (c 4 s + 1))) 5 (upd (c 5) s (nI (fu T e (gt T i) (i + 1)))), va_up (va_up (va_up m 6 (upd (m 6) s 1)) 7 (upd (m 7) s (m 7 s + 1))) 8 (upd (m 8) s (nI i)), Nat.le_refl _, ?_, fun rec w5 => ?_, ⟨⟨?_, ?_, ?_, ?_, ?_, ?_⟩, ⟨h7, h8, h9⟩, fun q hq => ?_, h11⟩, ⟨fun o ho => ?_, fun j hj => ?_⟩, ?_⟩
    · unfold f6_asks f6_asks_j55
      rw [o1, bd_e, if_neg (nI_nm1 (by omega)), if_neg (show ¬ (1 : Int32) = 0 by decide)]
      simp (disch := omega) only [wr_n, rd_n, cl_n, up_n, bz_1]
      rfl
    · unfold f11_played_b16
      rw [if_neg (show ¬ nI e ≤ nI i by rw [lep (by omega) (by omega)]; omega), hrd, o2, bd_e, if_neg (show ¬ nI s < 0 by rw [z_0, ltp (by omega) (by omega)]; omega)]
      simp (disch := omega) only [wr_n, rd_n, cl_n, up_n, z_1, nI_add]
    · simp (disch := omega) only [up_n]; exact h1
    · simp (disch := omega) only [up_n]; exact h2
    · simp (disch := omega) only [up_n]; exact h3
    · simp (disch := omega) only [up_n]; exact h4
    · simp (disch := omega) only [up_n]; exact h5
    · simp (disch := omega) only [up_n]; exact h6
    · obtain ⟨b1, b2, b3, b4, b5, b6, b7, b8, b9⟩ := h10 q hq
      by_cases eq : q = s
      · subst eq
        refine ⟨b1, ?_, ?_, ?_, ?_, ?_, ?_, ?_, ?_⟩
        · simp (disch := omega) only [up_n]; exact b2
        · simp (disch := omega) only [up_n]; exact b3
        · simp (disch := omega) only [up_n]; exact b4
        · simp (disch := omega) only [up_n, up_s, ud_s]
        · simp (disch := omega) only [up_n, up_s, ud_s]; rw [b6]
        · simp (disch := omega) only [up_n, up_s, ud_s]
        · simp (disch := omega) only [up_n, up_s, ud_s]; exact Or.inr trivial
        · simp (disch := omega) only [up_s, ud_s]; rw [hsk]
      · refine ⟨b1, ?_, ?_, ?_, ?_, ?_, ?_, ?_, ?_⟩
        · simp (disch := omega) only [up_n]; exact b2
        · simp (disch := omega) only [up_n]; exact b3
        · simp (disch := omega) only [up_n]; exact b4
        · simp (disch := omega) only [up_n, up_s, ud_n]; exact b5
        · simp (disch := omega) only [up_n, up_s, ud_n]; exact b6
        · simp (disch := omega) only [up_n, up_s, ud_n]; exact b7
        · simp (disch := omega) only [up_n, up_s, ud_n]; exact b8
        · simp (disch := omega) only [up_s, ud_n]; rw [b9, fu_ne hi (fun e2 => eq (h11 q s hq hs (e2.symm.trans hsk.symm)))]
    · simp (disch := omega) only [up_n]
    · simp (disch := omega) only [up_n]
    · simp (disch := omega) only [up_n]
  · have hn : ∀ s, s < t → ¬ ke s = gt T i := fun s hs e2 => hin ⟨s, hs, e2⟩
    obtain ⟨o1, o2⟩ := se_out hSE hk hn
    obtain ⟨s, t2, hd2, c1, m1, f1, f2, f3, f4, f5, f6, ⟨g1, g2, g3, g4, g5, g6⟩, f7, f8, f9, f10⟩ := se_free he hT hb hx hi hpi hn1 hSE (fun s hs e2 => hn s hs e2.symm)
    have s30 : s < 30 := by omega
    refine ⟨0, t2, hd2, (fun q => if q = s then gt T i else ke q), va_up (va_up (va_up (va_up (va_up (va_up c1 1 (upd (c1 1) s (nI (gt T i)))) 2 (upd (c1 2) s (nI i))) 6 (upd (c1 6) s 0)) 3 (upd (c1 3) s (nI i))) 4 (upd (upd (c1 4) s 0) s (0 + 1))) 5 (upd (c1 5) s (nI (fu T e (gt T i) (i + 1)))), va_up (va_up (va_up (va_up (va_up m1 5 (upd (m1 5) s (nI (gt T i)))) 6 (upd (m1 6) s 0)) 7 (upd (m1 7) s 1)) 8 (upd (m1 8) s (nI i))) 9 (upd (m1 9) s (nI i)), Nat.zero_le _, ?_, fun rec w5 => ?_, ⟨⟨?_, ?_, ?_, ?_, ?_, ?_⟩, ⟨f5, f6, h9⟩, fun q hq => ?_, fun q1 q2 hq1 hq2 hqe => ?_⟩, ⟨fun o ho => ?_, fun j hj => ?_⟩, ?_⟩
    · unfold f6_asks f6_asks_j55
      rw [o1, bd_e, if_pos rfl, f1, b2_e]
      simp (disch := omega) only [wr_n, rd_n, cl_n, up_n, up_s, up_x, bz_0, if_true, ud_s]
      congr 2
      funext o
      by_cases c4 : o = 4
      · subst c4
        simp (disch := omega) only [up_n, up_s]
      · by_cases c5 : o = 5
        · subst c5
          simp (disch := omega) only [up_n, up_s]
        · rw [up_n c5, up_n c4, up_n c5, up_n c4]
          by_cases c3 : o = 3
          · subst c3
            simp (disch := omega) only [up_n, up_s]
          · rw [up_n c3, up_n c3]
            by_cases c6 : o = 6
            · subst c6
              simp (disch := omega) only [up_n, up_s]
            · rw [up_n c6, up_n c6, up_n c4]
    · unfold f11_played_b16
      rw [if_neg (show ¬ nI e ≤ nI i by rw [lep (by omega) (by omega)]; omega), hrd, o2, bd_e, if_pos (show (-1 : Int32) < 0 by decide)]
      refine Eq.trans (f2 (fun r g => f11_played_j122 rec (nI pi) (nI n) (nI e) w5 (nI i) (nI (gt T i)) r g)) ?_
      unfold f11_played_j122
      simp (disch := omega) only [wr_n, cl_n, up_n, z_1, nI_add]
      rw [show w5 + nI 0 = w5 from Int32.add_zero w5]
    · simp (disch := omega) only [up_n]; exact g1
    · simp (disch := omega) only [up_n]; exact g2
    · simp (disch := omega) only [up_n]; exact g3
    · simp (disch := omega) only [up_n]; exact g4
    · simp (disch := omega) only [up_n]; exact g5
    · simp (disch := omega) only [up_n]; exact g6
    · unfold SQ
      by_cases eq : q = s
      · subst eq
        simp (disch := omega) only [up_n, up_s, ud_s, if_true]
        exact ⟨hk, trivial, trivial, trivial, trivial, rfl, trivial, Or.inl trivial, trivial⟩
      · obtain ⟨b1, b2, b3, b4, b5, b6, b7, b8, b9⟩ := h10 q (by omega)
        obtain ⟨d1, d2⟩ := f10 q (by omega)
        simp (disch := omega) only [up_n, up_s, ud_n, if_neg eq]
        rw [f7 1 (by omega) (by omega), f7 2 (by omega) (by omega), f7 3 (by omega) (by omega), f7 4 (by omega) (by omega), f7 5 (by omega) (by omega), f8 5 (by omega) (by omega), f8 7 (by omega) (by omega), f8 8 (by omega) (by omega), f8 9 (by omega) (by omega)]
        exact ⟨b1, b2, b3, b4, b5, b6, d1, d2, by rw [b9, fu_ne hi (fun e2 => hn q (by omega) e2.symm)]⟩
    · have hqe : (if q1 = s then gt T i else ke q1) = (if q2 = s then gt T i else ke q2) := hqe
      by_cases e1 : q1 = s
      · by_cases e2 : q2 = s
        · omega
        · rw [if_pos e1, if_neg e2] at hqe
          exact absurd hqe.symm (hn q2 (by omega))
      · by_cases e2 : q2 = s
        · rw [if_neg e1, if_pos e2] at hqe
          exact absurd hqe (hn q1 (by omega))
        · rw [if_neg e1, if_neg e2] at hqe
          exact h11 q1 q2 (by omega) (by omega) hqe
    · simp (disch := omega) only [up_n]
      exact f8 o (by omega) (by omega)
    · simp (disch := omega) only [up_n]
      exact f9 j hj
    · simp (disch := omega) only [up_n]
      rw [g1, h1]
