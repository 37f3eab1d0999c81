/-! PURE PART: the mirrors, over numbers -/
theorem p31 {n : Nat} (h : n < 1000000) : n < 2 ^ 31 := by omega
theorem rd_n {α : Type} {n m : Nat} {x : Nat → Int32} {k : Int32 → Option α} (h : m < n) (hn : n < 1000000) : rd n x (nI m) k = k (x m) := by
  unfold rd
  rw [if_neg (vp_in_nI h (p31 hn)), nI_clamp (by omega)]
theorem ck_n {α : Type} {n m : Nat} {k : Option α} (h : m < n) (hn : n < 1000000) : ck n (nI m) k = k := by
  unfold ck
  rw [if_neg (vp_in_nI h (p31 hn))]
theorem wr_n {α β : Type} {n m : Nat} {v : β} {k : β → Option α} (h : m < n) (hn : n < 1000000) : wr n (nI m) v k = k v := by
  unfold wr
  rw [if_neg (vp_in_nI h (p31 hn))]
theorem st_e {α β : Type} {m : β} {k : β → Option α} : st m k = k m := rfl
theorem b2_e {α β : Type} {v : Int32} {m : β} {k : Int32 → β → Option α} : b2 (some (v, m)) k = k v m := rfl
theorem bd_e {α β : Type} {v : β} {k : β → Option α} : (some v).bind k = k v := rfl
theorem nz_e {α : Type} {d : Int32} {k : Option α} (h : ¬ d = 0) : nz d k = k := if_neg h
theorem cl_n {m : Nat} (h : m < 1000000) : (nI m).toNatClampNeg = m := nI_clamp (by omega)
theorem lt_n {α : Sort _} {a b : Nat} {x y : α} {d : Decidable (nI a < nI b)} (ha : a < 1000000) (hb : b < 1000000) : @ite α (nI a < nI b) d x y = if a < b then x else y := by
  by_cases h : a < b
  · rw [if_pos h, if_pos ((nI_ltI (p31 ha) (p31 hb)).mpr h)]
  · rw [if_neg h, if_neg (fun q => h ((nI_ltI (p31 ha) (p31 hb)).mp q))]
theorem le_n {α : Sort _} {a b : Nat} {x y : α} {d : Decidable (nI a ≤ nI b)} (ha : a < 1000000) (hb : b < 1000000) : @ite α (nI a ≤ nI b) d x y = if a ≤ b then x else y := by
  by_cases h : a ≤ b
  · rw [if_pos h, if_pos ((nI_leI (p31 ha) (p31 hb)).mpr h)]
  · rw [if_neg h, if_neg (fun q => h ((nI_leI (p31 ha) (p31 hb)).mp q))]
theorem eq_n {α : Sort _} {a b : Nat} {x y : α} {d : Decidable (nI a = nI b)} (ha : a < 1000000) (hb : b < 1000000) : @ite α (nI a = nI b) d x y = if a = b then x else y := by
  by_cases h : a = b
  · rw [if_pos h, if_pos ((nI_eq (p31 ha) (p31 hb)).mpr h)]
  · rw [if_neg h, if_neg (fun q => h ((nI_eq (p31 ha) (p31 hb)).mp q))]
theorem min_n {a b : Nat} (ha : a < 1000000) (hb : b < 1000000) : (if nI a < nI b then nI a else nI b) = nI (min a b) := by
  rw [lt_n ha hb]
  by_cases h : a < b
  · rw [if_pos h, Nat.min_eq_left (by omega)]
  · rw [if_neg h, Nat.min_eq_right (by omega)]
theorem up_s {α : Type} {f : Nat → α} {k : Nat} {v : α} : va_up f k v k = v := va_up_self f k v
theorem up_n {α : Type} {f : Nat → α} {k j : Nat} {v : α} (h : j ≠ k) : va_up f k v j = f j := va_up_ne f v h
theorem ud_s {f : Nat → Int32} {k : Nat} {v : Int32} : upd f k v k = v := by simp [upd]
theorem ud_n {f : Nat → Int32} {k j : Nat} {v : Int32} (h : j ≠ k) : upd f k v j = f j := by simp [upd, h]
theorem fl_i {n j : Nat} {v : Int32} {x : Nat → Int32} (h : j < n) : fl n v x j = v := by simp [fl, h]
theorem cp_i {α : Type} {f g : Nat → α} {n j : Nat} (h : j < n) : va_cpy f g 0 0 n j = f j := by simp [va_cpy, h]
/-! the sketch: places, doors, counters, bits, numbers (0 door in use, 1 careful, 2 sample, 3 added), how often aged -/
abbrev AK : Type := (Nat → Nat → Nat) × (Nat → Nat → Nat) × (Nat → Nat → Nat) × (Nat → Nat) × (Nat → Nat) × Int32
def kP (A : AK) : Nat → Nat → Nat := A.1
def kD (A : AK) : Nat → Nat → Nat := A.2.1
def kC (A : AK) : Nat → Nat → Nat := A.2.2.1
def kB (A : AK) : Nat → Nat := A.2.2.2.1
def kS (A : AK) : Nat → Nat := A.2.2.2.2.1
def kG (A : AK) : Int32 := A.2.2.2.2.2
/-- the smallest of the first r counters of a key, and 15 -/
def mnr (A : AK) (k : Nat) : Nat → Nat
  | 0 => 15
  | r + 1 => min (kC A r (kP A r k)) (mnr A k r)
def thr (A : AK) (k : Nat) : Bool := decide (kB A (kD A 0 k) = 1) && decide (kB A (kD A 1 k) = 1)
def est (D : Nat) (A : AK) (k : Nat) : Nat := mnr A k D + (if kS A 0 = 1 ∧ thr A k = true then 1 else 0)
/-- what always holds of it -/
def okK (D : Nat) (A : AK) : Prop := 1 ≤ D ∧ D ≤ 4 ∧ (∀ r k, r < 4 → k < 100 → kP A r k < 64) ∧ (∀ w k, w < 2 → k < 100 → kD A w k < 128) ∧ (∀ r c, r < 4 → c < 64 → kC A r c ≤ 15) ∧ (∀ r c, D ≤ r → r < 4 → c < 64 → kC A r c = 0) ∧ (∀ b, b < 128 → kB A b ≤ 1) ∧ kS A 0 ≤ 1 ∧ kS A 1 ≤ 1 ∧ 10 ≤ kS A 2 ∧ kS A 2 ≤ 1000 ∧ kS A 3 ≤ 1001
theorem mnr_le (A : AK) (k : Nat) : ∀ r, mnr A k r ≤ 15
  | 0 => Nat.le_refl 15
  | r + 1 => Nat.le_trans (Nat.min_le_right _ _) (mnr_le A k r)
theorem mnr_at (A : AK) (k : Nat) : ∀ n r, r < n → mnr A k n ≤ kC A r (kP A r k)
  | 0, r, h => absurd h (Nat.not_lt_zero r)
  | n + 1, r, h => by
    by_cases e : r = n
    · subst e
      exact Nat.min_le_left _ _
    · exact Nat.le_trans (Nat.min_le_right _ _) (mnr_at A k n r (by omega))
/-- the class's sketch holds it; T: how often each key was added since the class last forgot -/
def RK (D : Nat) (A : AK) (g : Sg) : Prop := g 0 5 = nI D ∧ g 0 6 = nI (kS A 0) ∧ g 0 7 = nI (kS A 1) ∧ g 0 8 = nI (kS A 2) ∧ g 0 9 = nI (kS A 3) ∧ g 0 10 = kG A ∧ (∀ r k, r < 4 → k < 100 → g (r + 10) k = nI (kP A r k)) ∧ (∀ w k, w < 2 → k < 100 → g (w + 14) k = nI (kD A w k)) ∧ (∀ r c, r < 4 → c < 64 → g (r + 6) c = nI (kC A r c)) ∧ (∀ b, b < 128 → g 2 b = nI (kB A b)) ∧ (∀ k, k < 100 → ∃ t, g 5 k = nI t ∧ t ≤ kS A 3 ∧ min 15 t ≤ est D A k)
theorem pk_pd {D : Nat} {A : AK} {g : Sg} (hA : okK D A) (hR : RK D A g) {k : Nat} (hk : k < 100) : f7_isPastDoor g (nI k) = some (if thr A k = true then 1 else 0) := by
  obtain ⟨-, -, -, hd, -, -, hb1, -⟩ := hA
  obtain ⟨-, -, -, -, -, -, -, h14, -, h2, -⟩ := hR
  have e0 : ((0 : Int32)).toNatClampNeg + 14 = 0 + 14 := rfl
  have e1 : ((1 : Int32)).toNatClampNeg + 14 = 1 + 14 := rfl
  have hd0 := hd 0 k (by decide) hk
  have hd1 := hd 1 k (by decide) hk
  have c0 := hb1 _ hd0
  have c1 := hb1 _ hd1
  unfold f7_isPastDoor
  rw [show (0 : Int32) = nI 0 from rfl, show (1 : Int32) = nI 1 from rfl, ck_n (by decide) (by decide), cl_n (by decide), rd_n hk (by decide), h14 0 k (by decide) hk, rd_n hd0 (by decide), h2 _ hd0, eq_n (by omega) (by decide), ck_n (by decide) (by decide), cl_n (by decide), rd_n hk (by decide), h14 1 k (by decide) hk, rd_n hd1 (by decide), h2 _ hd1, eq_n (by omega) (by decide)]
  unfold thr
  by_cases q0 : kB A (kD A 0 k) = 1
  · by_cases q1 : kB A (kD A 1 k) = 1
    · simp [q0, q1]
    · simp [q0, q1]
  · simp [q0]
theorem pk_smL {D : Nat} {A : AK} {g : Sg} (hA : okK D A) (hR : RK D A g) {k : Nat} (hk : k < 100) : ∀ (n r : Nat), r ≤ D → D - r < n → f7_smallestCounter_l5 g n (nI k) (nI (mnr A k r)) (nI r) = some (nI (mnr A k D)) := by
  obtain ⟨hD1, hD4, hp, -, hc, -⟩ := hA
  obtain ⟨h5, -, -, -, -, -, h10, -, h6, -⟩ := hR
  intro n
  induction n with
  | zero => intro r h1 h2; omega
  | succ n ih =>
    intro r h1 h2
    show f7_smallestCounter_b5 g (f7_smallestCounter_l5 g n) (nI k) (nI (mnr A k r)) (nI r) = _
    unfold f7_smallestCounter_b5
    rw [h5, le_n (by omega) (by omega)]
    by_cases hr : D ≤ r
    · rw [if_pos hr, show r = D by omega]
    · have hpl := hp r k (by omega) hk
      have hcl := hc r _ (show r < 4 by omega) hpl
      have hm := mnr_le A k r
      rw [if_neg hr, ck_n (by omega) (by decide), ck_n (by omega) (by decide), cl_n (by omega), rd_n hk (by decide), h10 r k (by omega) hk, rd_n hpl (by decide), h6 r _ (by omega) hpl, le_n (by omega) (by omega), nI_1]
      have hi := ih (r + 1) (by omega) (by omega)
      by_cases hq : mnr A k r ≤ kC A r (kP A r k)
      · rw [if_pos hq]
        rw [show mnr A k (r + 1) = mnr A k r from Nat.min_eq_right hq] at hi
        exact hi
      · rw [if_neg hq]
        rw [show mnr A k (r + 1) = kC A r (kP A r k) from Nat.min_eq_left (by omega)] at hi
        exact hi
theorem pk_sm {D : Nat} {A : AK} {g : Sg} (hA : okK D A) (hR : RK D A g) {k : Nat} (hk : k < 100) : f7_smallestCounter g (nI k) = some (nI (mnr A k D)) :=
  pk_smL hA hR hk NF 0 (by omega) (by have := hA.2.1; show _ < 8000; omega)
theorem pk_guess {D : Nat} {A : AK} {g : Sg} (hA : okK D A) (hR : RK D A g) {k : Nat} (hk : k < 100) : f7_guess g (nI k) = some (nI (est D A k)) := by
  have h0 := hA.2.2.2.2.2.2.2.1
  unfold f7_guess
  rw [pk_sm hA hR hk, bd_e, hR.2.1, show (1 : Int32) = nI 1 from rfl, eq_n (by omega) (by decide), pk_pd hA hR hk, bd_e, nI_add]
  unfold est
  by_cases q0 : kS A 0 = 1
  · by_cases q1 : thr A k = true
    · simp [q0, q1]
    · simp [q0, q1]
  · simp [q0]
