/-! rows of keys -/
def gt (l : List Nat) (j : Nat) : Nat := (l[j]?).getD 0
def uS (Z : Nat → Nat) : List Nat → Nat
  | [] => 0
  | k :: l => Z k + uS Z l
theorem uS_app {Z : Nat → Nat} : ∀ (l m : List Nat), uS Z (l ++ m) = uS Z l + uS Z m
  | [], m => by simp [uS]
  | k :: l, m => by
    show Z k + uS Z (l ++ m) = Z k + uS Z l + uS Z m
    rw [uS_app l m]
    omega
theorem uS_erase {Z : Nat → Nat} {k : Nat} : ∀ l : List Nat, k ∈ l → uS Z (l.erase k) + Z k = uS Z l
  | a :: l, h => by
    by_cases e : a = k
    · subst e
      rw [List.erase_cons_head]
      show _ = Z a + uS Z l
      omega
    · have h2 : k ∈ l := by
        rcases List.mem_cons.mp h with h | h
        · exact absurd h.symm e
        · exact h
      rw [List.erase_cons_tail (by simpa using e)]
      have := uS_erase (Z := Z) l h2
      show Z a + uS Z (l.erase k) + Z k = Z a + uS Z l
      omega
theorem gt_z {k : Nat} {l : List Nat} : gt (k :: l) 0 = k := rfl
theorem gt_c {k j : Nat} {l : List Nat} : gt (k :: l) (j + 1) = gt l j := by simp [gt]
theorem gt_mem {l : List Nat} {j : Nat} (h : j < l.length) : gt l j ∈ l := by
  simp [gt, h]
theorem gt_al {l m : List Nat} {j : Nat} (h : j < l.length) : gt (l ++ m) j = gt l j := by
  simp [gt, List.getElem?_append, h]
theorem gt_ae {l : List Nat} {k : Nat} : gt (l ++ [k]) l.length = k := by simp [gt]
theorem gt_ei {l : List Nat} {p j : Nat} : gt (l.eraseIdx p) j = if j < p then gt l j else gt l (j + 1) := by
  unfold gt
  rw [List.getElem?_eraseIdx]
  split <;> rfl
theorem pos_ex {k : Nat} : ∀ l : List Nat, k ∈ l → ∃ p, p < l.length ∧ gt l p = k ∧ (∀ j, j < p → gt l j ≠ k) ∧ l.erase k = l.eraseIdx p
  | a :: l, h => by
    by_cases e : a = k
    · subst e
      exact ⟨0, by simp, rfl, fun j hj => absurd hj (Nat.not_lt_zero j), by rw [List.erase_cons_head]; rfl⟩
    · have h2 : k ∈ l := by
        rcases List.mem_cons.mp h with h | h
        · exact absurd h.symm e
        · exact h
      obtain ⟨p, p1, p2, p3, p4⟩ := pos_ex l h2
      refine ⟨p + 1, by simp; omega, by rw [gt_c]; exact p2, fun j hj => ?_, ?_⟩
      · match j with
        | 0 => exact e
        | j + 1 =>
          rw [gt_c]
          exact p3 j (by omega)
      · rw [List.erase_cons_tail (by simpa using e), p4]
        rfl
theorem pigeon : ∀ (n : Nat) (l : List Nat), l.Nodup → (∀ k, k ∈ l → k < n) → l.length ≤ n
  | 0, l, _, h => by
    cases l with
    | nil => simp
    | cons a l => exact absurd (h a (by simp)) (Nat.not_lt_zero a)
  | n + 1, l, hd, h => by
    have h1 := pigeon n (l.erase n) (hd.erase n) (fun k hk => by
      have := (List.Nodup.mem_erase_iff hd).mp hk
      have := h k this.2
      omega)
    have h2 := List.length_erase_of_mem (a := n) (l := l)
    by_cases e : n ∈ l
    · have := h2 e
      omega
    · rw [List.erase_of_not_mem e] at h1
      omega
/-- the rows: no key twice, no key in two of them -/
def okL (R : Nat) (L : Nat → List Nat) : Prop := (∀ r, r < R → (L r).Nodup ∧ ∀ k, k ∈ L r → k < 100) ∧ ∀ r s k, r < R → s < R → k ∈ L r → k ∈ L s → r = s
def RW (R : Nat) (L : Nat → List Nat) (Z : Nat → Nat) (g : Sg) : Prop := (∀ r, r < R → g 2 r = nI (L r).length) ∧ (∀ r, r < R → g 3 r = nI (uS Z (L r))) ∧ (∀ r i, r < R → i < (L r).length → g (r + 6) i = nI (gt (L r) i)) ∧ (∀ k, k < 100 → (∀ r, r < R → k ∈ L r → g 4 k = nI r) ∧ ((∀ r, r < R → k ∉ L r) → g 4 k = -1)) ∧ (∀ k, k < 100 → g 5 k = nI (Z k))
def outL (L : Nat → List Nat) (k : Nat) : Nat → List Nat := fun q => (L q).erase k
def appL (L : Nat → List Nat) (r k : Nat) : Nat → List Nat := va_up L r (L r ++ [k])
def movL (L : Nat → List Nat) (r k : Nat) : Nat → List Nat := appL (outL L k) r k
theorem okL.len {R : Nat} {L : Nat → List Nat} (h : okL R L) {r : Nat} (hr : r < R) : (L r).length ≤ 100 := pigeon 100 (L r) (h.1 r hr).1 (h.1 r hr).2
theorem okL.lt {R : Nat} {L : Nat → List Nat} (h : okL R L) {r k : Nat} (hr : r < R) (hk : k < 100) (hn : k ∉ L r) : (L r).length < 100 := by
  have := pigeon 100 (k :: L r) (List.nodup_cons.mpr ⟨hn, (h.1 r hr).1⟩) (fun q hq => by
    rcases List.mem_cons.mp hq with rfl | hq
    · exact hk
    · exact (h.1 r hr).2 q hq)
  simp at this
  omega
theorem ok_out {R : Nat} {L : Nat → List Nat} (h : okL R L) (k : Nat) : okL R (outL L k) := by
  refine ⟨fun r hr => ⟨(h.1 r hr).1.erase k, fun q hq => (h.1 r hr).2 q (List.mem_of_mem_erase hq)⟩, fun r s q hr hs h1 h2 => h.2 r s q hr hs (List.mem_of_mem_erase h1) (List.mem_of_mem_erase h2)⟩
theorem out_nm {R : Nat} {L : Nat → List Nat} (h : okL R L) {k r : Nat} (hr : r < R) : k ∉ outL L k r := fun h1 => ((List.Nodup.mem_erase_iff (h.1 r hr).1).mp h1).1 rfl
theorem ok_app {R : Nat} {L : Nat → List Nat} (h : okL R L) {r k : Nat} (hk : k < 100) (hn : ∀ q, q < R → k ∉ L q) : okL R (appL L r k) := by
  have hm : ∀ q j, j ∈ appL L r k q ↔ j ∈ L q ∨ (q = r ∧ j = k) := by
    intro q j
    by_cases e : q = r
    · subst e
      simp [appL, up_s]
    · simp [appL, up_n e, e]
  refine ⟨fun q hq => ⟨?_, fun j hj => ?_⟩, fun q s j hq hs h1 h2 => ?_⟩
  · by_cases e : q = r
    · subst e
      simp only [appL, up_s]
      refine List.nodup_append.mpr ⟨(h.1 q hq).1, by simp, fun a ha b hb => ?_⟩
      rw [List.mem_singleton] at hb
      subst hb
      intro e2
      subst e2
      exact hn q hq ha
    · simp only [appL, up_n e]
      exact (h.1 q hq).1
  · rcases (hm q j).mp hj with h1 | ⟨-, rfl⟩
    · exact (h.1 q hq).2 j h1
    · exact hk
  · rcases (hm q j).mp h1 with h3 | ⟨e1, e2⟩
    · rcases (hm s j).mp h2 with h4 | ⟨e3, e4⟩
      · exact h.2 q s j hq hs h3 h4
      · exact absurd (e4 ▸ h3) (hn q hq)
    · rcases (hm s j).mp h2 with h4 | ⟨e3, e4⟩
      · exact absurd (e2 ▸ h4) (hn s hs)
      · rw [e1, e3]
theorem ok_mov {R : Nat} {L : Nat → List Nat} (h : okL R L) {r k : Nat} (hk : k < 100) : okL R (movL L r k) := ok_app (ok_out h k) hk (fun _ hq => out_nm h hq)
