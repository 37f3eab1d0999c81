/-! one key is asked for, by the four rows -/
theorem neg_n : ∀ m, m < 64 → 0 < m → -(nI m) < 0 := by decide
theorem sub_c {p r : Nat} (hp : p < 64) (hr : r < 64) : (r ≤ p ∧ nI p - nI r = nI (p - r)) ∨ (p < r ∧ nI p - nI r < 0) := by
  by_cases h : r ≤ p
  · exact Or.inl ⟨h, pk_sub h⟩
  · refine Or.inr ⟨by omega, ?_⟩
    have e : nI p - nI r = -(nI (r - p)) := by
      rw [← pk_sub (show p ≤ r by omega), Int32.neg_sub]
    rw [e]
    exact neg_n _ (by omega) (by omega)
/-- the ratio of two lengths, and at least 1 -/
theorem pf_ratio {x v : Nat} (hv : 0 < v) (hx : x < 1000) (hv2 : v < 1000) : f2_ratio (nI x) (nI v) = some (nI (max 1 (x / v))) := by
  have hd : x / v ≤ x := Nat.div_le_self _ _
  unfold f2_ratio
  rw [if_neg (show ¬ nI v ≤ 0 by rw [z_0, lep (by omega) (by omega)]; omega), nzp hv (by omega), dvp (by omega) hv (by omega)]
  by_cases h : 1 < x / v
  · rw [if_pos (show (1 : Int32) < nI (x / v) by rw [z_1, ltp (by omega) (by omega)]; exact h), Nat.max_eq_right (by omega)]
  · rw [if_neg (show ¬ (1 : Int32) < nI (x / v) by rw [z_1, ltp (by omega) (by omega)]; exact h), Nat.max_eq_left (by omega)]
    rfl
theorem fr_in {L : Nat → List Nat} {g : Sg} {k : Nat} (hL : okL 4 L) (hl : ∀ q, q < 4 → (L q).length ≤ 63) (hM : FM L g) (hk : k < 100) {r : Nat} (hr : r < 4) : (k ∉ L r → f11_indexIn g (nI r) (nI k) = some (-1)) := fun hn => pj_idxN hr (hl r hr) (hL.1 r hr).2 hM hk hn
/-- a key of a row goes to the end of row 1, in the reference -/
theorem fr_to1 {L : Nat → List Nat} {g : Sg} {k r : Nat} (hr : r < 4) (hL : okL 4 L) (hl : ∀ q, q < 4 → (L q).length ≤ 62) (hM : FM L g) (hk : k ∈ L r) : ∃ i g2, i < 63 ∧ f11_indexIn g (nI r) (nI k) = some (nI i) ∧ (∀ {α : Type} (J : Sg → Option α), (b2 (f11_leave (nI r) (nI i) g) (fun r117 g116 => ((f11_join (nI 1) (nI k) g116).bind J))) = J g2) ∧ FM (movL L 1 k) g2 ∧ FF g g2 := by
  have hl3 : ∀ q, q < 4 → (L q).length ≤ 63 := fun q hq => Nat.le_trans (hl q hq) (by decide)
  obtain ⟨i, g1, a1, a2, a3, a4, a5⟩ := pj_out hr hL hl3 hM hk
  obtain ⟨o1, o2⟩ := out_len hL hr hk
  have hlo : ∀ q, q < 4 → (outL L k q).length ≤ 63 := fun q hq => by
    by_cases e : q = r
    · subst e
      have := hl q hq
      omega
    · rw [o2 q hq e]; exact hl3 q hq
  obtain ⟨g2, j1, j2, j3⟩ := pj_join (r := 1) (k := k) (by decide) hlo a4
  refine ⟨i, g2, a2, a1, fun J => ?_, j2, a5.t j3⟩
  rw [a3, b2_e, j1, bd_e]
theorem mv1_len {L : Nat → List Nat} {k r : Nat} (hr : r < 4) (hL : okL 4 L) (hk : k ∈ L r) : (r = 1 → ∀ q, q < 4 → (movL L 1 k q).length = (L q).length) ∧ (r ≠ 1 → (movL L 1 k r).length + 1 = (L r).length ∧ (movL L 1 k 1).length = (L 1).length + 1 ∧ ∀ q, q < 4 → q ≠ r → q ≠ 1 → movL L 1 k q = L q) := by
  obtain ⟨o1, o2⟩ := out_len hL hr hk
  obtain ⟨p1, p2⟩ := app_len (L := outL L k) (r := 1) (k := k)
  refine ⟨fun e q hq => ?_, fun e => ⟨?_, ?_, fun q hq e1 e2 => ?_⟩⟩
  · show (appL (outL L k) 1 k q).length = _
    subst e
    by_cases e2 : q = 1
    · subst e2
      rw [p1]; exact o1
    · rw [p2 q e2, o2 q hq e2]
  · show (appL (outL L k) 1 k r).length + 1 = _
    rw [p2 r e]; exact o1
  · show (appL (outL L k) 1 k 1).length = _
    rw [p1, o2 1 (by decide) (fun e2 => e e2.symm)]
  · show appL (outL L k) 1 k q = _
    rw [p2 q e2, o2 q hq e1]
theorem up7 {S : Ob} {c : Sg} : FR S (va_up S 7 c) := fun q _ h => up_n h
theorem fr_step {T : List Nat} {L : Nat → List Nat} {S : Ob} {g : Sg} {n p e i : Nat} {a2 a3 : Int32} (he : e ≤ T.length) (hT : T.length ≤ 300) (hb : ∀ j, j ∈ T → j < 100) (hx : ∀ i, i < T.length → g 1 (1405 + i) = nI (gt T i)) (hi : i < e) (hn1 : 1 ≤ n) (hn : n ≤ 30) (h : FS n p L S g) :
    ∃ r p2 N S2 g2, r ≤ 1 ∧ f2_asks (nI (gt T i)) a2 a3 S = some (nI r, S2) ∧ (∀ rec v, f11_balanced_b34 rec (nI n) (nI e) v (nI i) g = rec (nI n) (nI e) (v + nI r) (nI (i + 1)) g2) ∧ FS n p2 N S2 g2 ∧ FR S S2 ∧ FG g g2 := by
  have hFS := h
  obtain ⟨hL, hR, ⟨h1, h2, h3, h4⟩, hM, h5, h6, h7⟩ := h
  have hl : ∀ q, q < 4 → (L q).length ≤ 62 := lt4 (by omega) (by omega) (by omega) (by omega)
  have hl3 : ∀ q, q < 4 → (L q).length ≤ 63 := fun q hq => Nat.le_trans (hl q hq) (by decide)
  obtain ⟨k, hkd⟩ : ∃ k, k = gt T i := ⟨_, rfl⟩
  have hk : k < 100 := by rw [hkd]; exact hb _ (gt_mem (by omega))
  have hw := hR.2.2.2.1 k hk
  have hrd : ∀ {β : Type} (q : Int32 → Option β), rd 1805 (g 1) ((1405 : Int32) + nI i) q = q (nI k) := fun q => by
    rw [z_1405, nI_add, rd_n (by omega) (by omega), hx i (by omega), hkd]
  have hei : ¬ nI e ≤ nI i := by rw [lep (by omega) (by omega)]; omega
  have idn : ∀ r, r < 4 → k ∉ L r → f11_indexIn g (nI r) (nI k) = some (-1) := fun r hr hn => fr_in hL hl3 hM hk hr hn
  have huniq : ∀ r, r < 4 → k ∈ L r → ∀ q, q < 4 → q ≠ r → k ∉ L q := fun r hr hin q hq e hin2 => e (hL.2 q r k hq hr hin2 hin)
  rw [← hkd]
  have hcls : ∀ r, r < 4 → k ∈ L r → S 7 4 k = nI r := fun r hr hin => hw.1 r hr hin
  have neg1 : ¬ (0 : Int32) ≤ -1 := by decide
  have neg2 : (-1 : Int32) < 0 := by decide
  have c0 := hR.1 0 (by decide)
  have c1 := hR.1 1 (by decide)
  have c2 := hR.1 2 (by decide)
  have c3 := hR.1 3 (by decide)
  have m2 := hM.1 2 (by decide)
  have m3 := hM.1 3 (by decide)
  by_cases k0 : k ∈ L 0
  · obtain ⟨cc, x1, x2⟩ := pr_mov (r := 1) (k := k) (by decide) (by decide) hL Z1_ok hR hk
    obtain ⟨j, g2, y1, y2, y3, y4, y5⟩ := fr_to1 (r := 0) (by decide) hL hl hM k0
    have ln := (mv1_len (r := 0) (by decide) hL k0).2 (by decide)
    have n2 := ln.2.2 2 (by decide) (by decide) (by decide)
    have n3 := ln.2.2 3 (by decide) (by decide) (by decide)
    refine ⟨1, p, movL L 1 k, va_up S 7 cc, g2, Nat.le_refl _, ?_, fun rec v => ?_, ⟨ok_mov hL hk, by rw [up_s]; exact x2, ⟨by rw [up_n (by decide)]; exact h1, by rw [up_n (by decide)]; exact h2, by rw [y5 0 (by decide) (by decide)]; exact h3, h4⟩, y4, ?_⟩, up7, y5.g⟩
    · unfold f2_asks f2_asks_j128
      rw [rd_n hk (by omega), hcls 0 (by decide) k0, if_neg (by decide), if_neg (by decide), if_neg (by decide)]
      rw [show f5_moveToLast 4 1 (nI k) (S 7) = some cc from x1, bd_e, st_e, if_pos (show nI 0 = 0 from rfl)]
      rfl
    · unfold f11_balanced_b34 f11_balanced_j99
      rw [if_neg hei, hrd]
      rw [show f11_indexIn g 0 (nI k) = some (nI j) from y2, bd_e]
      rw [show f11_indexIn g 1 (nI k) = some (-1) from idn 1 (by decide) (huniq 0 (by decide) k0 1 (by decide) (by decide)), bd_e]
      rw [show f11_indexIn g 2 (nI k) = some (-1) from idn 2 (by decide) (huniq 0 (by decide) k0 2 (by decide) (by decide)), bd_e]
      rw [show f11_indexIn g 3 (nI k) = some (-1) from idn 3 (by decide) (huniq 0 (by decide) k0 3 (by decide) (by decide)), bd_e]
      rw [if_pos (show (0 : Int32) ≤ nI j by rw [z_0, lep (by omega) (by omega)]; omega), if_neg (show ¬ nI j < 0 by rw [z_0, ltp (by omega) (by omega)]; omega)]
      refine Eq.trans (y3 (fun g120 => rec (nI n) (nI e) (v + 1) (nI i + 1) g120)) ?_
      rw [z_1, nI_add]
    · rw [n2, n3]; omega
  by_cases k1 : k ∈ L 1
  · obtain ⟨cc, x1, x2⟩ := pr_mov (r := 1) (k := k) (by decide) (by decide) hL Z1_ok hR hk
    obtain ⟨j, g2, y1, y2, y3, y4, y5⟩ := fr_to1 (r := 1) (by decide) hL hl hM k1
    have ln := (mv1_len (r := 1) (by decide) hL k1).1 rfl
    have n0 := ln 0 (by decide)
    have n1 := ln 1 (by decide)
    have n2 := ln 2 (by decide)
    have n3 := ln 3 (by decide)
    refine ⟨1, p, movL L 1 k, va_up S 7 cc, g2, Nat.le_refl _, ?_, fun rec v => ?_, ⟨ok_mov hL hk, by rw [up_s]; exact x2, ⟨by rw [up_n (by decide)]; exact h1, by rw [up_n (by decide)]; exact h2, by rw [y5 0 (by decide) (by decide)]; exact h3, h4⟩, y4, ?_⟩, up7, y5.g⟩
    · unfold f2_asks f2_asks_j128
      rw [rd_n hk (by omega), hcls 1 (by decide) k1, if_neg (by decide), if_neg (by decide), if_neg (by decide)]
      rw [show f5_moveToLast 4 1 (nI k) (S 7) = some cc from x1, bd_e, st_e, if_neg (by decide), if_pos (show nI 1 = 1 from rfl)]
      rfl
    · unfold f11_balanced_b34 f11_balanced_j99
      rw [if_neg hei, hrd]
      rw [show f11_indexIn g 0 (nI k) = some (-1) from idn 0 (by decide) k0, bd_e]
      rw [show f11_indexIn g 1 (nI k) = some (nI j) from y2, bd_e]
      rw [show f11_indexIn g 2 (nI k) = some (-1) from idn 2 (by decide) (huniq 1 (by decide) k1 2 (by decide) (by decide)), bd_e]
      rw [show f11_indexIn g 3 (nI k) = some (-1) from idn 3 (by decide) (huniq 1 (by decide) k1 3 (by decide) (by decide)), bd_e]
      rw [if_neg neg1, if_neg (show ¬ nI j < 0 by rw [z_0, ltp (by omega) (by omega)]; omega), if_pos neg2]
      refine Eq.trans (y3 (fun g120 => rec (nI n) (nI e) (v + 1) (nI i + 1) g120)) ?_
      rw [z_1, nI_add]
    · rw [n0, n1, n2, n3]; omega
  by_cases k2 : k ∈ L 2
  · have hv : 0 < (L 2).length := List.length_pos_of_mem k2
    have hd : (L 3).length / (L 2).length ≤ (L 3).length := Nat.div_le_self _ _
    have hrat := pf_ratio (x := (L 3).length) (v := (L 2).length) hv (by omega) (by omega)
    obtain ⟨rho, hrho⟩ : ∃ rho, rho = max 1 ((L 3).length / (L 2).length) := ⟨_, rfl⟩
    rw [← hrho] at hrat
    have hr62 : 1 ≤ rho ∧ rho ≤ 62 := by omega
    obtain ⟨p2, hp2⟩ : ∃ p2, p2 = min (p + rho) n := ⟨_, rfl⟩
    have hpn : p2 ≤ n := by omega
    have hmc : (if nI p + nI rho < nI n then nI p + nI rho else nI n) = nI p2 := by rw [nI_add, min_n (by omega) (by omega), hp2]
    have hwi : f11_within (nI p + nI rho) 0 (nI n) = some (nI p2) := by
      unfold f11_within
      rw [nI_add, if_pos (show (0 : Int32) ≤ nI (p + rho) by rw [z_0, lep (by omega) (by omega)]; omega)]
      by_cases q : p + rho ≤ n
      · rw [if_pos (show nI (p + rho) ≤ nI n by rw [lep (by omega) (by omega)]; exact q), hp2, Nat.min_eq_left q]
      · rw [if_neg (show ¬ nI (p + rho) ≤ nI n by rw [lep (by omega) (by omega)]; exact q), hp2, Nat.min_eq_right (by omega)]
    obtain ⟨S1, hS1⟩ : ∃ S1, S1 = va_up S 6 (va_up (S 6) 0 (upd (S 6 0) 2 (nI p2))) := ⟨_, rfl⟩
    obtain ⟨g1, hg1⟩ : ∃ g1, g1 = va_up g 0 (upd (g 0) 16 (nI p2)) := ⟨_, rfl⟩
    obtain ⟨N, S2, g2, r1, r2, r3, r4, r5, r6, r7, ⟨r8, r9, r10⟩, r11, r12, r13⟩ := fr_room (S := S1) (g := g1) (b := nI 0) (p := p2) hL (by rw [hS1, up_n (by decide)]; exact hR) (by rw [hS1, up_s, up_s, ud_s]) (hM.fr (by rw [hg1, up_n (by decide)]) (by rw [hg1, up_n (by decide)])) (by rw [hg1, up_s, ud_s]) (by omega) hl
    have hNl : ∀ q, q < 4 → (N q).length ≤ 62 := lt4 (by omega) (by omega) (by omega) (by omega)
    have kN : k ∈ N 2 := r11 k k2
    obtain ⟨cc, x1, x2⟩ := pr_mov (r := 1) (k := k) (by decide) (by decide) r3 Z1_ok r4 hk
    obtain ⟨j, g3, y1, y2, y3, y4, y5⟩ := fr_to1 (r := 2) (by decide) r3 hNl r6 kN
    have ln := (mv1_len (r := 2) (by decide) r3 kN).2 (by decide)
    have n0 := ln.2.2 0 (by decide) (by decide) (by decide)
    have n3 := ln.2.2 3 (by decide) (by decide) (by decide)
    have e6 : S2 6 = S1 6 := r5 6 (by decide)
    have fg : FG g g1 := by
      rw [hg1]
      exact ⟨fun o ho _ _ => up_n ho, fun j hj => by rw [up_s, ud_n hj]⟩
    refine ⟨0, p2, movL N 1 k, va_up S2 7 cc, g3, Nat.zero_le _, ?_, fun rec v => ?_, ⟨ok_mov r3 hk, by rw [up_s]; exact x2, ⟨?_, ?_, ?_, hpn⟩, y4, ?_⟩, ?_, fg.t (r7.g.t y5.g)⟩
    · unfold f2_asks f2_asks_j128
      rw [rd_n hk (by omega), hcls 2 (by decide) k2, if_neg (by decide), if_pos (show nI 2 = 2 from rfl), z_3, z_2, rd_n (show 3 < 4 by decide) (by omega), rd_n (show 2 < 4 by decide) (by omega), c3, c2, hrat, bd_e, h1, h2, hmc, ← hS1, st_e]
      rw [show f2_makeRoom 0 S1 = some S2 from r1, bd_e]
      rw [show f5_moveToLast 4 1 (nI k) (S2 7) = some cc from x1, bd_e, st_e, if_neg (by decide), if_neg (by decide)]
      rfl
    · unfold f11_balanced_b34
      rw [if_neg hei, hrd]
      rw [show f11_indexIn g 0 (nI k) = some (-1) from idn 0 (by decide) k0, bd_e]
      rw [show f11_indexIn g 1 (nI k) = some (-1) from idn 1 (by decide) k1, bd_e]
      obtain ⟨j0, jg, j1, j2, _, _, _⟩ := fr_to1 (r := 2) (by decide) hL hl hM k2
      rw [show f11_indexIn g 2 (nI k) = some (nI j0) from j2, bd_e]
      rw [show f11_indexIn g 3 (nI k) = some (-1) from idn 3 (by decide) (huniq 2 (by decide) k2 3 (by decide) (by decide)), bd_e]
      have tail : ((f11_makeRoom 0 g1).bind (fun g78 => ((f11_indexIn g78 (2 : Int32) (nI k)).bind (fun r81 => (b2 (f11_leave (2 : Int32) r81 g78) (fun r85 g84 => ((f11_join (1 : Int32) (nI k) g84).bind (fun g88 => (rec (nI n) (nI e) v (nI i + (1 : Int32)) g88))))))))) = rec (nI n) (nI e) (v + nI 0) (nI (i + 1)) g3 := by
        rw [show f11_makeRoom 0 g1 = some g2 from r2, bd_e]
        rw [show f11_indexIn g2 2 (nI k) = some (nI j) from y2, bd_e]
        refine Eq.trans (y3 (fun g120 => rec (nI n) (nI e) v (nI i + 1) g120)) ?_
        rw [z_1, nI_add, show v + nI 0 = v from Int32.add_zero v]
      rw [if_neg neg1, if_pos neg2, if_neg (show ¬ nI j0 < 0 by rw [z_0, ltp (by omega) (by omega)]; omega), z_3, z_2, rd_n (show 3 < 4 by decide) (by omega), rd_n (show 2 < 4 by decide) (by omega), m3, m2, nzp hv (by omega), dvp (by omega) hv (by omega), h3]
      by_cases q1 : 1 ≤ (L 3).length / (L 2).length
      · rw [if_pos (show (1 : Int32) ≤ nI ((L 3).length / (L 2).length) by rw [z_1, lep (by omega) (by omega)]; exact q1), show (L 3).length / (L 2).length = rho by omega, hwi, bd_e, st_e, ← hg1]
        exact tail
      · rw [if_neg (show ¬ (1 : Int32) ≤ nI ((L 3).length / (L 2).length) by rw [z_1, lep (by omega) (by omega)]; exact q1)]
        have er : rho = 1 := by omega
        rw [er] at hwi
        rw [show f11_within (nI p + 1) 0 (nI n) = some (nI p2) from hwi, bd_e, st_e, ← hg1]
        exact tail
    · rw [up_n (by decide), e6, hS1, up_s, up_s, ud_n (by decide)]; exact h1
    · rw [up_n (by decide), e6, hS1, up_s, up_s, ud_s]
    · rw [y5 0 (by decide) (by decide), r7 0 (by decide) (by decide), hg1, up_s, ud_s]
    · rw [n0, n3]; omega
    · intro q hq1 hq2
      rw [up_n hq2, r5 q hq2, hS1, up_n hq1]
  by_cases k3 : k ∈ L 3
  · have hv : 0 < (L 3).length := List.length_pos_of_mem k3
    have hd : (L 2).length / (L 3).length ≤ (L 2).length := Nat.div_le_self _ _
    have hrat := pf_ratio (x := (L 2).length) (v := (L 3).length) hv (by omega) (by omega)
    obtain ⟨rho, hrho⟩ : ∃ rho, rho = max 1 ((L 2).length / (L 3).length) := ⟨_, rfl⟩
    rw [← hrho] at hrat
    have hr62 : 1 ≤ rho ∧ rho ≤ 62 := by omega
    obtain ⟨p2, hp2⟩ : ∃ p2, p2 = p - rho := ⟨_, rfl⟩
    have hpn : p2 ≤ n := by omega
    have hmc : (if (0 : Int32) < nI p - nI rho then nI p - nI rho else (0 : Int32)) = nI p2 := by
      rcases sub_c (p := p) (r := rho) (by omega) (by omega) with ⟨q1, q2⟩ | ⟨q1, q2⟩
      · rw [q2, ← hp2]
        by_cases q3 : 0 < p2
        · rw [if_pos (show (0 : Int32) < nI p2 by rw [z_0, ltp (by omega) (by omega)]; exact q3)]
        · rw [if_neg (show ¬ (0 : Int32) < nI p2 by rw [z_0, ltp (by omega) (by omega)]; exact q3), show p2 = 0 by omega]
          rfl
      · rw [if_neg (fun q3 => Int32.lt_irrefl (Int32.lt_trans q3 q2)), show p2 = 0 by omega]
        rfl
    have hwi : f11_within (nI p - nI rho) 0 (nI n) = some (nI p2) := by
      unfold f11_within
      rcases sub_c (p := p) (r := rho) (by omega) (by omega) with ⟨q1, q2⟩ | ⟨q1, q2⟩
      · rw [q2, ← hp2, if_pos (show (0 : Int32) ≤ nI p2 by rw [z_0, lep (by omega) (by omega)]; omega), if_pos (show nI p2 ≤ nI n by rw [lep (by omega) (by omega)]; exact hpn)]
      · rw [if_neg (Int32.not_le.mpr q2), show p2 = 0 by omega]
        rfl
    obtain ⟨S1, hS1⟩ : ∃ S1, S1 = va_up S 6 (va_up (S 6) 0 (upd (S 6 0) 2 (nI p2))) := ⟨_, rfl⟩
    obtain ⟨g1, hg1⟩ : ∃ g1, g1 = va_up g 0 (upd (g 0) 16 (nI p2)) := ⟨_, rfl⟩
    obtain ⟨N, S2, g2, r1, r2, r3, r4, r5, r6, r7, ⟨r8, r9, r10⟩, r11, r12, r13⟩ := fr_room (S := S1) (g := g1) (b := nI 1) (p := p2) hL (by rw [hS1, up_n (by decide)]; exact hR) (by rw [hS1, up_s, up_s, ud_s]) (hM.fr (by rw [hg1, up_n (by decide)]) (by rw [hg1, up_n (by decide)])) (by rw [hg1, up_s, ud_s]) (by omega) hl
    have hNl : ∀ q, q < 4 → (N q).length ≤ 62 := lt4 (by omega) (by omega) (by omega) (by omega)
    have kN : k ∈ N 3 := r12 k k3
    obtain ⟨cc, x1, x2⟩ := pr_mov (r := 1) (k := k) (by decide) (by decide) r3 Z1_ok r4 hk
    obtain ⟨j, g3, y1, y2, y3, y4, y5⟩ := fr_to1 (r := 3) (by decide) r3 hNl r6 kN
    have ln := (mv1_len (r := 3) (by decide) r3 kN).2 (by decide)
    have n0 := ln.2.2 0 (by decide) (by decide) (by decide)
    have n2 := ln.2.2 2 (by decide) (by decide) (by decide)
    have e6 : S2 6 = S1 6 := r5 6 (by decide)
    have fg : FG g g1 := by
      rw [hg1]
      exact ⟨fun o ho _ _ => up_n ho, fun j hj => by rw [up_s, ud_n hj]⟩
    refine ⟨0, p2, movL N 1 k, va_up S2 7 cc, g3, Nat.zero_le _, ?_, fun rec v => ?_, ⟨ok_mov r3 hk, by rw [up_s]; exact x2, ⟨?_, ?_, ?_, hpn⟩, y4, ?_⟩, ?_, fg.t (r7.g.t y5.g)⟩
    · unfold f2_asks f2_asks_j128
      rw [rd_n hk (by omega), hcls 3 (by decide) k3, if_neg (by decide), if_neg (by decide), if_pos (show nI 3 = 3 from rfl), z_3, z_2, rd_n (show 2 < 4 by decide) (by omega), rd_n (show 3 < 4 by decide) (by omega), c3, c2, hrat, bd_e, h2, hmc, ← hS1, st_e]
      rw [show f2_makeRoom 1 S1 = some S2 from r1, bd_e]
      rw [show f5_moveToLast 4 1 (nI k) (S2 7) = some cc from x1, bd_e, st_e, if_neg (by decide), if_neg (by decide)]
      rfl
    · unfold f11_balanced_b34
      rw [if_neg hei, hrd]
      rw [show f11_indexIn g 0 (nI k) = some (-1) from idn 0 (by decide) k0, bd_e]
      rw [show f11_indexIn g 1 (nI k) = some (-1) from idn 1 (by decide) k1, bd_e]
      rw [show f11_indexIn g 2 (nI k) = some (-1) from idn 2 (by decide) k2, bd_e]
      obtain ⟨j0, jg, j1, j2, _, _, _⟩ := fr_to1 (r := 3) (by decide) hL hl hM k3
      rw [show f11_indexIn g 3 (nI k) = some (nI j0) from j2, bd_e]
      have tail : ((f11_makeRoom 1 g1).bind (fun g78 => ((f11_indexIn g78 (3 : Int32) (nI k)).bind (fun r81 => (b2 (f11_leave (3 : Int32) r81 g78) (fun r85 g84 => ((f11_join (1 : Int32) (nI k) g84).bind (fun g88 => (rec (nI n) (nI e) v (nI i + (1 : Int32)) g88))))))))) = rec (nI n) (nI e) (v + nI 0) (nI (i + 1)) g3 := by
        rw [show f11_makeRoom 1 g1 = some g2 from r2, bd_e]
        rw [show f11_indexIn g2 3 (nI k) = some (nI j) from y2, bd_e]
        refine Eq.trans (y3 (fun g120 => rec (nI n) (nI e) v (nI i + 1) g120)) ?_
        rw [z_1, nI_add, show v + nI 0 = v from Int32.add_zero v]
      rw [if_neg neg1, if_pos neg2, if_pos neg2, if_neg (show ¬ nI j0 < 0 by rw [z_0, ltp (by omega) (by omega)]; omega), z_3, z_2, rd_n (show 2 < 4 by decide) (by omega), rd_n (show 3 < 4 by decide) (by omega), m3, m2, nzp hv (by omega), dvp (by omega) hv (by omega), h3]
      by_cases q1 : 1 ≤ (L 2).length / (L 3).length
      · rw [if_pos (show (1 : Int32) ≤ nI ((L 2).length / (L 3).length) by rw [z_1, lep (by omega) (by omega)]; exact q1), show (L 2).length / (L 3).length = rho by omega, hwi, bd_e, st_e, ← hg1]
        exact tail
      · rw [if_neg (show ¬ (1 : Int32) ≤ nI ((L 2).length / (L 3).length) by rw [z_1, lep (by omega) (by omega)]; exact q1)]
        have er : rho = 1 := by omega
        rw [er] at hwi
        rw [show f11_within (nI p - 1) 0 (nI n) = some (nI p2) from hwi, bd_e, st_e, ← hg1]
        exact tail
    · rw [up_n (by decide), e6, hS1, up_s, up_s, ud_n (by decide)]; exact h1
    · rw [up_n (by decide), e6, hS1, up_s, up_s, ud_s]
    · rw [y5 0 (by decide) (by decide), r7 0 (by decide) (by decide), hg1, up_s, ud_s]
    · rw [n0, n2]; omega
    · intro q hq1 hq2
      rw [up_n hq2, r5 q hq2, hS1, up_n hq1]
  · have hno : ∀ r, r < 4 → k ∉ L r := lt4 k0 k1 k2 k3
    obtain ⟨N, S2, g2, r1, r2, r3, r4, r5, r6, r7, ⟨r8, r9, r10⟩, r11⟩ := fr_new hn1 hn hFS hno
    obtain ⟨cc, x1, x2⟩ := pr_app (r := 0) (k := k) (by decide) (by decide) r3 Z1_ok r4 hk r11
    obtain ⟨g3, j1, j2, j3⟩ := pj_join (r := 0) (k := k) (by decide) (lt4 (by omega) (by omega) (by omega) (by omega)) r6
    obtain ⟨p1, p2⟩ := app_len (L := N) (r := 0) (k := k)
    have n1 := p2 1 (by decide)
    have n2 := p2 2 (by decide)
    have n3 := p2 3 (by decide)
    have e6 : S2 6 = S 6 := r5 6 (by decide)
    refine ⟨0, p, appL N 0 k, va_up S2 7 cc, g3, Nat.zero_le _, ?_, fun rec v => ?_, ⟨ok_app r3 hk r11, by rw [up_s]; exact x2, ⟨?_, ?_, ?_, h4⟩, j2, ?_⟩, ?_, r7.g.t j3.g⟩
    · unfold f2_asks
      rw [rd_n hk (by omega), hw.2 hno, if_pos rfl, r1, bd_e]
      rw [show f5_append 4 0 (nI k) (S2 7) = some cc from x1, bd_e, st_e]
      rfl
    · unfold f11_balanced_b34
      rw [if_neg hei, hrd]
      rw [show f11_indexIn g 0 (nI k) = some (-1) from idn 0 (by decide) k0, bd_e]
      rw [show f11_indexIn g 1 (nI k) = some (-1) from idn 1 (by decide) k1, bd_e]
      rw [show f11_indexIn g 2 (nI k) = some (-1) from idn 2 (by decide) k2, bd_e]
      rw [show f11_indexIn g 3 (nI k) = some (-1) from idn 3 (by decide) k3, bd_e]
      rw [if_neg neg1, if_pos neg2, if_pos neg2, if_pos neg2, r2]
      unfold f11_otherKey_j128
      rw [show f11_join 0 (nI k) g2 = some g3 from j1, bd_e, bd_e, z_1, nI_add, show v + nI 0 = v from Int32.add_zero v]
    · rw [up_n (by decide), e6]; exact h1
    · rw [up_n (by decide), e6]; exact h2
    · rw [j3 0 (by decide) (by decide), r7 0 (by decide) (by decide)]; exact h3
    · rw [n1, n2, n3, p1]; omega
    · intro q hq1 hq2
      rw [up_n hq2, r5 q hq2]
