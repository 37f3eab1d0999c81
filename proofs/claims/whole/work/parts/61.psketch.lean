/-! adding to the sketch, as the document says it -/
def incK (A : AK) : AK := (kP A, kD A, kC A, kB A, (fun i => if i = 3 then kS A 3 + 1 else kS A i), kG A)
def limK (D : Nat) (A : AK) (k : Nat) : Nat := if kS A 1 = 1 then mnr A k D else 15
def grC (A : AK) (k lim r c : Nat) : Nat := if c = kP A r k ∧ kC A r c ≤ lim ∧ kC A r c < 15 then kC A r c + 1 else kC A r c
def growK (D : Nat) (A : AK) (k : Nat) : AK := (kP A, kD A, (fun r c => if r < D then grC A k (limK D A k) r c else kC A r c), kB A, kS A, kG A)
def bitK (A : AK) (k : Nat) : AK := (kP A, kD A, kC A, (fun b => if b = kD A 0 k ∨ b = kD A 1 k then 1 else kB A b), kS A, kG A)
def ageK (A : AK) : AK := (kP A, kD A, (fun r c => kC A r c / 2), (fun _ => 0), (fun i => if i = 3 then kS A 2 / 2 else kS A i), kG A + 1)
def stepK (D : Nat) (A : AK) (k : Nat) : AK := if kS A 0 = 1 ∧ thr A k = false then bitK A k else growK D A k
def endK (A : AK) : AK := if kS A 3 < kS A 2 then A else ageK A
def addK (D : Nat) (A : AK) (k : Nat) : AK := endK (stepK D (incK A) k)
theorem grC_le {A : AK} {k lim r c : Nat} (h : kC A r c ≤ 15) : grC A k lim r c ≤ 15 := by
  unfold grC
  split <;> omega
theorem grC_ge {A : AK} {k lim r c : Nat} : kC A r c ≤ grC A k lim r c := by
  unfold grC
  split <;> omega
/-! the class -/
theorem pk_growL {D k lim : Nat} (P : Nat → Nat) (hD : D ≤ 4) (hk : k < 100) (hlim : lim ≤ 15) (hp : ∀ r, r < 4 → P r < 64) : ∀ (n r : Nat) (g : Sg), r ≤ D → D - r < n → g 0 5 = nI D → (∀ r, r < 4 → g (r + 10) k = nI (P r)) → (∀ r c, r < 4 → c < 64 → ∃ v, g (r + 6) c = nI v ∧ v ≤ 15) →
    ∃ g2, f7_growCounters_l21 n (nI k) (nI lim) (nI r) g = some g2 ∧ (∀ o, (o < 6 ∨ 10 ≤ o) → g2 o = g o) ∧ ∀ q c v, q < 4 → c < 64 → g (q + 6) c = nI v → v ≤ 15 → g2 (q + 6) c = nI (if r ≤ q ∧ q < D ∧ c = P q ∧ v ≤ lim ∧ v < 15 then v + 1 else v) := by
  intro n
  induction n with
  | zero => intro r g h1 h2; omega
  | succ n ih =>
    intro r g h1 h2 h5 h10 h6
    show ∃ g2, f7_growCounters_b21 (f7_growCounters_l21 n) (nI k) (nI lim) (nI r) g = some g2 ∧ _
    unfold f7_growCounters_b21
    rw [h5, le_n (by omega) (by omega)]
    by_cases hr : D ≤ r
    · rw [if_pos hr]
      refine ⟨g, rfl, fun o _ => rfl, fun q c v hq hc hv _ => ?_⟩
      rw [hv, if_neg (by omega)]
    · have hP := hp r (by omega)
      obtain ⟨w, hw, hw15⟩ := h6 r (P r) (by omega) hP
      rw [if_neg hr, ck_n (by omega) (by decide), cl_n (by omega), rd_n hk (by decide), h10 r (by omega), ck_n (by omega) (by decide), rd_n hP (by decide), hw, lt_n (by omega) (by omega), show (15 : Int32) = nI 15 from rfl, le_n (by decide) (by omega), ck_n (by omega) (by decide), wr_n hP (by decide), cl_n (by omega), nI_1, nI_1]
      by_cases hl : lim < w
      · rw [if_pos hl]
        obtain ⟨g2, e1, e2, e3⟩ := ih (r + 1) g (by omega) (by omega) h5 h10 h6
        refine ⟨g2, e1, e2, fun q c v hq hc hv h15 => ?_⟩
        rw [e3 q c v hq hc hv h15]
        congr 1
        by_cases hqr : q = r
        · subst hqr
          by_cases hcp : c = P q
          · subst hcp
            have : v = w := (nI_eq (by omega) (by omega)).mp (hv.symm.trans hw)
            subst this
            rw [if_neg (by omega), if_neg (by omega)]
          · rw [if_neg (fun h => hcp h.2.2.1), if_neg (fun h => hcp h.2.2.1)]
        · by_cases hrq : r ≤ q
          · simp only [show (r + 1 ≤ q) = True by simp; omega, show (r ≤ q) = True by simp; omega]
          · rw [if_neg (by omega), if_neg (by omega)]
      · rw [if_neg hl]
        by_cases h15w : 15 ≤ w
        · rw [if_pos h15w]
          obtain ⟨g2, e1, e2, e3⟩ := ih (r + 1) g (by omega) (by omega) h5 h10 h6
          refine ⟨g2, e1, e2, fun q c v hq hc hv h15 => ?_⟩
          rw [e3 q c v hq hc hv h15]
          congr 1
          by_cases hqr : q = r
          · subst hqr
            by_cases hcp : c = P q
            · subst hcp
              have : v = w := (nI_eq (by omega) (by omega)).mp (hv.symm.trans hw)
              subst this
              rw [if_neg (by omega), if_neg (by omega)]
            · rw [if_neg (fun h => hcp h.2.2.1), if_neg (fun h => hcp h.2.2.1)]
          · by_cases hrq : r ≤ q
            · simp only [show (r + 1 ≤ q) = True by simp; omega, show (r ≤ q) = True by simp; omega]
            · rw [if_neg (by omega), if_neg (by omega)]
        · rw [if_neg h15w]
          obtain ⟨g1, hg1⟩ : ∃ z, z = va_up g (r + 6) (upd (g (r + 6)) (P r) (nI (w + 1))) := ⟨_, rfl⟩
          rw [← hg1]
          have a1 : ∀ o, o ≠ r + 6 → g1 o = g o := fun o ho => by rw [hg1, up_n ho]
          have a2 : ∀ c, c ≠ P r → g1 (r + 6) c = g (r + 6) c := fun c hc => by rw [hg1, up_s, ud_n hc]
          have a3 : g1 (r + 6) (P r) = nI (w + 1) := by rw [hg1, up_s, ud_s]
          obtain ⟨g2, e1, e2, e3⟩ := ih (r + 1) g1 (by omega) (by omega) (by rw [a1 0 (by omega)]; exact h5) (fun q hq => by rw [a1 _ (by omega)]; exact h10 q hq) (fun q c hq hc => by
            by_cases hqr : q = r
            · subst hqr
              by_cases hcp : c = P q
              · subst hcp
                exact ⟨w + 1, a3, by omega⟩
              · rw [a2 c hcp]
                exact h6 q c hq hc
            · rw [a1 _ (by omega)]
              exact h6 q c hq hc)
          refine ⟨g2, e1, fun o ho => by rw [e2 o ho, a1 o (by omega)], fun q c v hq hc hv h15 => ?_⟩
          by_cases hqr : q = r
          · subst hqr
            by_cases hcp : c = P q
            · subst hcp
              have : v = w := (nI_eq (by omega) (by omega)).mp (hv.symm.trans hw)
              subst this
              rw [e3 q _ (v + 1) hq hc a3 (by omega)]
              congr 1
              rw [if_neg (by omega), if_pos (by omega)]
            · rw [e3 q c v hq hc (by rw [a2 c hcp]; exact hv) h15]
              congr 1
              rw [if_neg (fun h => hcp h.2.2.1), if_neg (fun h => hcp h.2.2.1)]
          · rw [e3 q c v hq hc (by rw [a1 _ (by omega)]; exact hv) h15]
            congr 1
            by_cases hrq : r ≤ q
            · simp only [show (r + 1 ≤ q) = True by simp; omega, show (r ≤ q) = True by simp; omega]
            · rw [if_neg (by omega), if_neg (by omega)]
/-- RK without what was added since -/
def RJ (D : Nat) (A : AK) (g : Sg) : Prop := g 0 5 = nI D ∧ g 0 6 = nI (kS A 0) ∧ g 0 7 = nI (kS A 1) ∧ g 0 8 = nI (kS A 2) ∧ g 0 9 = nI (kS A 3) ∧ g 0 10 = kG A ∧ (∀ r k, r < 4 → k < 100 → g (r + 10) k = nI (kP A r k)) ∧ (∀ w k, w < 2 → k < 100 → g (w + 14) k = nI (kD A w k)) ∧ (∀ r c, r < 4 → c < 64 → g (r + 6) c = nI (kC A r c)) ∧ (∀ b, b < 128 → g 2 b = nI (kB A b))
theorem RK.j {D : Nat} {A : AK} {g : Sg} (h : RK D A g) : RJ D A g := by
  obtain ⟨h1, h2, h3, h4, h5, h6, h7, h8, h9, h10, -⟩ := h
  exact ⟨h1, h2, h3, h4, h5, h6, h7, h8, h9, h10⟩
theorem pk_pdJ {D : Nat} {A : AK} {g : Sg} (hA : okK D A) (hR : RJ D A g) {k : Nat} (hk : k < 100) : f7_isPastDoor g (nI k) = some (if thr A k = true then 1 else 0) := by
  obtain ⟨-, -, -, hd, -, -, hb1, -⟩ := hA
  obtain ⟨-, -, -, -, -, -, -, h14, -, h2⟩ := hR
  have hd0 := hd 0 k (by decide) hk
  have hd1 := hd 1 k (by decide) hk
  have c0 := hb1 _ hd0
  have c1 := hb1 _ hd1
  unfold f7_isPastDoor
  rw [show (0 : Int32) = nI 0 from rfl, show (1 : Int32) = nI 1 from rfl, ck_n (by decide) (by decide), cl_n (by decide), rd_n hk (by decide), h14 0 k (by decide) hk, rd_n hd0 (by decide), h2 _ hd0, eq_n (by omega) (by decide), ck_n (by decide) (by decide), cl_n (by decide), rd_n hk (by decide), h14 1 k (by decide) hk, rd_n hd1 (by decide), h2 _ hd1, eq_n (by omega) (by decide)]
  unfold thr
  by_cases q0 : kB A (kD A 0 k) = 1
  · by_cases q1 : kB A (kD A 1 k) = 1
    · simp [q0, q1]
    · simp [q0, q1]
  · simp [q0]
theorem pk_smJ {D : Nat} {A : AK} {g : Sg} (hA : okK D A) (hR : RJ D A g) {k : Nat} (hk : k < 100) : f7_smallestCounter g (nI k) = some (nI (mnr A k D)) := by
  have H : ∀ (n r : Nat), r ≤ D → D - r < n → f7_smallestCounter_l5 g n (nI k) (nI (mnr A k r)) (nI r) = some (nI (mnr A k D)) := by
    obtain ⟨hD1, hD4, hp, -, hc, -⟩ := hA
    obtain ⟨h5, -, -, -, -, -, h10, -, h6, -⟩ := hR
    intro n
    induction n with
    | zero => intro r h1 h2; omega
    | succ n ih =>
      intro r h1 h2
      show f7_smallestCounter_b5 g (f7_smallestCounter_l5 g n) (nI k) (nI (mnr A k r)) (nI r) = _
      unfold f7_smallestCounter_b5
      rw [h5, le_n (by omega) (by omega)]
      by_cases hr : D ≤ r
      · rw [if_pos hr, show r = D by omega]
      · have hpl := hp r k (by omega) hk
        have hcl := hc r _ (show r < 4 by omega) hpl
        have hm := mnr_le A k r
        rw [if_neg hr, ck_n (by omega) (by decide), ck_n (by omega) (by decide), cl_n (by omega), rd_n hk (by decide), h10 r k (by omega) hk, rd_n hpl (by decide), h6 r _ (by omega) hpl, le_n (by omega) (by omega), nI_1]
        have hi := ih (r + 1) (by omega) (by omega)
        by_cases hq : mnr A k r ≤ kC A r (kP A r k)
        · rw [if_pos hq]
          rw [show mnr A k (r + 1) = mnr A k r from Nat.min_eq_right hq] at hi
          exact hi
        · rw [if_neg hq]
          rw [show mnr A k (r + 1) = kC A r (kP A r k) from Nat.min_eq_left (by omega)] at hi
          exact hi
  exact H NF 0 (by omega) (by have := hA.2.1; show _ < 8000; omega)
theorem pk_grow {D : Nat} {A : AK} {g : Sg} (hA : okK D A) (hR : RJ D A g) {k : Nat} (hk : k < 100) : ∃ g2, f7_growCounters (nI k) g = some g2 ∧ RJ D (growK D A k) g2 ∧ g2 5 = g 5 := by
  have hsm := pk_smJ hA hR hk
  obtain ⟨hD1, hD4, hp, hd, hc, hz, hb1, hs0, hs1, -⟩ := hA
  obtain ⟨h1, h2, h3, h4, h5, h6, h7, h8, h9, h10⟩ := hR
  have hlim : limK D A k ≤ 15 := by
    unfold limK
    split
    · exact mnr_le A k D
    · omega
  obtain ⟨g2, e1, e2, e3⟩ := pk_growL (P := fun r => kP A r k) (lim := limK D A k) hD4 hk hlim (fun r hr => hp r k hr hk) NF 0 g (by omega) (by show _ < 8000; omega) h1 (fun r hr => h7 r k hr hk) (fun r c hr hc2 => ⟨_, h9 r c hr hc2, hc r c hr hc2⟩)
  refine ⟨g2, ?_, ?_, e2 5 (by omega)⟩
  · unfold f7_growCounters
    rw [h3, show (1 : Int32) = nI 1 from rfl, eq_n (by omega) (by decide), hsm, bd_e]
    unfold limK at e1
    by_cases q : kS A 1 = 1
    · rw [if_pos q]
      rw [if_pos q] at e1
      exact e1
    · rw [if_neg q]
      rw [if_neg q] at e1
      exact e1
  · have e0 := e2 0 (by omega)
    refine ⟨by rw [e0]; exact h1, by rw [e0]; exact h2, by rw [e0]; exact h3, by rw [e0]; exact h4, by rw [e0]; exact h5, by rw [e0]; exact h6, fun r k hr hk => by rw [e2 _ (by omega)]; exact h7 r k hr hk, fun w k hw hk => by rw [e2 _ (by omega)]; exact h8 w k hw hk, fun r c hr hc2 => ?_, fun b hb => by rw [e2 2 (by omega)]; exact h10 b hb⟩
    rw [e3 r c _ hr hc2 (h9 r c hr hc2) (hc r c hr hc2)]
    congr 1
    show _ = if r < D then grC A k (limK D A k) r c else kC A r c
    unfold grC
    by_cases hrD : r < D
    · rw [if_pos hrD]
      by_cases q : c = kP A r k ∧ kC A r c ≤ limK D A k ∧ kC A r c < 15
      · rw [if_pos ⟨by omega, hrD, q⟩, if_pos q]
      · rw [if_neg (fun h => q h.2.2), if_neg q]
    · rw [if_neg hrD, if_neg (fun h => hrD h.2.1)]
