/-- the names of a State's group -/
def NSst (t : Nat) : List (Nat × Nat × Nat) := [(t, 0, 0), (t, 4, 0), (t, 4, 1), (t, 5, 0), (t, 1, 0), (t, 3, 0), (t, 3, 4), (t, 3, 5), (t, 3, 1), (t, 3, 6), (t, 3, 7), (t, 3, 8), (t, 3, 2), (t, 3, 3), (t, 2, 0), (t, 2, 1), (t, 2, 6), (t, 2, 7), (t, 2, 8), (t, 2, 9), (t, 2, 2), (t, 2, 3), (t, 2, 10), (t, 2, 11), (t, 2, 12), (t, 2, 13), (t, 2, 4), (t, 2, 14), (t, 2, 15), (t, 2, 5)]
/-- what a State's group holds when it is made -/
def Sinit (m3 m4 : Sg) (c w : Int32) : Ob := fun i => if i = 1 then gCa c w else if i = 2 then m4 else if i = 3 then m3 else if i = 5 then gCl else gz
theorem ctSt_cong {cy : Nat → ClassId} {ad1 ad2 : Nat → Nat → Nat → Nat} {t : Nat} (h : ad1 t = ad2 t) (i o : Nat) (x : Nat → Int32) : ctSt cy ad1 t i o x = ctSt cy ad2 t i o x := by
  unfold ctSt ctState ctCache ctSketch ctRows ctTrace
  rw [h]
theorem ctPl_cong {cy : Nat → ClassId} {ad1 ad2 : Nat → Nat → Nat → Nat} {t : Nat} (h : ad1 t = ad2 t) (i o : Nat) (x : Nat → Int32) : ctPl cy ad1 t i o x = ctPl cy ad2 t i o x := by
  unfold ctPl ctPlayer ctFour ctRows ctSeats
  rw [h]
theorem ctModel_cong {cy : Nat → ClassId} {ad1 ad2 : Nat → Nat → Nat → Nat} {t : Nat} (h : ad1 t = ad2 t) (i o : Nat) (x : Nat → Int32) : ctModel cy ad1 t i o x = ctModel cy ad2 t i o x := by
  unfold ctModel
  rw [h]
theorem ctMain_cong {cy : Nat → ClassId} {ad1 ad2 : Nat → Nat → Nat → Nat} {u : Nat} (hu : 0 < u) (h : ∀ a, a ≠ u → ad1 a = ad2 a) (hu5 : u < 5) (o : Nat) (x : Nat → Int32) (hx : o ≠ 0 → ¬ x (u - 1) = 1) : ctMain cy ad1 6 0 o x = ctMain cy ad2 6 0 o x := by
  cases o with
  | zero =>
    show (Sum.inr (9, [.int (x 0), .int (x 1), .int (x 2), .ref (ad1 0 0 0), .ref (ad1 6 0 1), .ref (ad1 5 0 0)]) : va_E) = .inr (9, [.int (x 0), .int (x 1), .int (x 2), .ref (ad2 0 0 0), .ref (ad2 6 0 1), .ref (ad2 5 0 0)])
    rw [h 0 (by omega), h 6 (by omega), h 5 (by omega)]
  | succ o =>
    show (Sum.inl (cy 3, 4, rA (fun r => if r < 4 then (if x r = 1 then some (ad1 (r + 1) 0 0) else none) else none)) : va_E) = .inl (cy 3, 4, rA (fun r => if r < 4 then (if x r = 1 then some (ad2 (r + 1) 0 0) else none) else none))
    have e : (fun r => if r < 4 then (if x r = 1 then some (ad1 (r + 1) 0 0) else none) else none) = (fun r => if r < 4 then (if x r = 1 then some (ad2 (r + 1) 0 0) else none) else none) := by
      funext r
      by_cases h1 : x r = 1
      · have h2 : r + 1 ≠ u := by
          intro e
          have e2 : r = u - 1 := by omega
          rw [e2] at h1
          exact hx (by omega) h1
        rw [h (r + 1) h2]
      · simp [h1]
    rw [e]
/-- a world goes over to other addresses, where those of one group alone are new -/
theorem wl_over {cy : Nat → ClassId} {ad1 ad2 : Nat → Nat → Nat → Nat} {ns : List (Nat × Nat × Nat)} {M M2 : Me} {u : Nat} (hu : 0 < u) (hu5 : u < 5) (h : ∀ a, a ≠ u → ad1 a = ad2 a) (hM : ∀ a, a ≠ u → M a = M2 a) (hns : ∀ n ∈ ns, n.1 ≠ u) (h6 : ∀ i o, (6, i, o) ∈ ns → i = 0) (hx : ∀ o, (6, 0, o) ∈ ns → o ≠ 0 → ¬ M 6 0 o (u - 1) = 1) : wl cy ad1 ns M = wl cy ad2 ns M2 := by
  unfold wl
  apply List.map_congr_left
  intro n hn
  obtain ⟨a, i, o⟩ := n
  have ha : a ≠ u := hns _ hn
  show (ad1 a i o, ctA cy ad1 a i o (M a i o)) = (ad2 a i o, ctA cy ad2 a i o (M2 a i o))
  rw [← hM a ha, h a ha]
  have e : ctA cy ad1 a i o (M a i o) = ctA cy ad2 a i o (M a i o) := by
    unfold ctA
    split
    · exact ctSt_cong (h a ha) _ _ _
    · split
      · exact ctPl_cong (h a ha) _ _ _
      · split
        · rename_i h6a
          subst h6a
          have hi := h6 i o hn
          subst hi
          exact ctMain_cong hu h hu5 o _ (hx o hn)
        · exact ctModel_cong (h a ha) _ _ _
  rw [e]
theorem wl_one {cy : Nat → ClassId} {ad1 ad2 : Nat → Nat → Nat → Nat} {M : Me} {t : Nat} (ht : t < 5) (h : ad1 t = ad2 t) : wl cy ad1 (NSst t) M = wl cy ad2 (NSst t) M := by
  unfold wl
  apply List.map_congr_left
  intro n hn
  have h1 : n.1 = t := by
    simp only [NSst, List.mem_cons, List.not_mem_nil, or_false] at hn
    rcases hn with rfl | rfl | rfl | rfl | rfl | rfl | rfl | rfl | rfl | rfl | rfl | rfl | rfl | rfl | rfl | rfl | rfl | rfl | rfl | rfl | rfl | rfl | rfl | rfl | rfl | rfl | rfl | rfl | rfl | rfl <;> rfl
  obtain ⟨a, i, o⟩ := n
  have h1 : a = t := h1
  subst h1
  show (ad1 a i o, ctA cy ad1 a i o (M a i o)) = (ad2 a i o, ctA cy ad2 a i o (M a i o))
  rw [ct_lt ht, ct_lt ht, ctSt_cong h, h]
theorem NSst_in {t i o : Nat} (h : o < szSt i) (hi : i < 6) : (t, i, o) ∈ NSst t := by
  rcases (show i = 0 ∨ i = 1 ∨ i = 2 ∨ i = 3 ∨ i = 4 ∨ i = 5 by omega) with rfl | rfl | rfl | rfl | rfl | rfl
  · have h : o < 1 := h
    rcases (show o = 0 by omega) with rfl
    simp [NSst]
  · have h : o < 1 := h
    rcases (show o = 0 by omega) with rfl
    simp [NSst]
  · have h : o < 16 := h
    rcases (show o = 0 ∨ o = 1 ∨ o = 2 ∨ o = 3 ∨ o = 4 ∨ o = 5 ∨ o = 6 ∨ o = 7 ∨ o = 8 ∨ o = 9 ∨ o = 10 ∨ o = 11 ∨ o = 12 ∨ o = 13 ∨ o = 14 ∨ o = 15 by omega) with rfl | rfl | rfl | rfl | rfl | rfl | rfl | rfl | rfl | rfl | rfl | rfl | rfl | rfl | rfl | rfl <;> simp [NSst]
  · have h : o < 9 := h
    rcases (show o = 0 ∨ o = 1 ∨ o = 2 ∨ o = 3 ∨ o = 4 ∨ o = 5 ∨ o = 6 ∨ o = 7 ∨ o = 8 by omega) with rfl | rfl | rfl | rfl | rfl | rfl | rfl | rfl | rfl <;> simp [NSst]
  · have h : o < 2 := h
    rcases (show o = 0 ∨ o = 1 by omega) with rfl | rfl <;> simp [NSst]
  · have h : o < 1 := h
    rcases (show o = 0 by omega) with rfl
    simp [NSst]
