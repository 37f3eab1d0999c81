/-! making room among the four rows -/
def RoomP (L : Nat → List Nat) (S : Ob) (g : Sg) (oS : Option Ob) (oG : Option Sg) : Prop := ∃ N S2 g2, oS = some S2 ∧ oG = some g2 ∧ okL 4 N ∧ RW 4 N Z1 (S2 7) ∧ (∀ q, q ≠ 7 → S2 q = S q) ∧ FM N g2 ∧ FF g g2 ∧ ((N 0).length + (N 2).length = (L 0).length + (L 2).length ∧ (N 1).length + (N 3).length = (L 1).length + (L 3).length ∧ ((N 0).length + (N 1).length + 1 = (L 0).length + (L 1).length ∨ ((L 0).length + (L 1).length = 0 ∧ (N 0).length + (N 1).length = 0))) ∧ ((∀ k, k ∈ L 2 → k ∈ N 2) ∧ (∀ k, k ∈ L 3 → k ∈ N 3) ∧ ∀ k, (∀ r, r < 4 → k ∉ L r) → ∀ r, r < 4 → k ∉ N r)
theorem fr_mv {L : Nat → List Nat} {S : Ob} {g : Sg} {a b : Nat} (hab : (a = 0 ∧ b = 2) ∨ (a = 1 ∧ b = 3)) (hL : okL 4 L) (hR : RW 4 L Z1 (S 7)) (hM : FM L g) (hl : ∀ q, q < 4 → (L q).length ≤ 62) (h0 : 0 < (L a).length) :
    RoomP L S g ((f5_moveFirst 4 (nI a) (nI b) (S 7)).bind (fun g11 => (st (va_up S 7 g11) (fun S12 => (some S12))))) (b2 (f11_leave (nI a) (nI 0) g) (fun r22 g21 => ((f11_join (nI b) r22 g21).bind (fun g25 => (some g25))))) := by
  have ha : a < 4 := by omega
  have hb : b < 4 := by omega
  have hab2 : a ≠ b := by omega
  have hk := gt_mem h0
  have hk100 := (hL.1 a ha).2 _ hk
  obtain ⟨c2, c1, c3⟩ := pf_mv ha hb hL hR h0
  have hl3 : ∀ q, q < 4 → (L q).length ≤ 63 := fun q hq => Nat.le_trans (hl q hq) (by decide)
  obtain ⟨g1, d1, d2, d3⟩ := pj_out0 ha hL hl3 hM h0
  obtain ⟨o1, o2⟩ := out_len hL ha hk
  have hlo : ∀ q, q < 4 → (outL L (gt (L a) 0) q).length ≤ 63 := fun q hq => by
    by_cases e : q = a
    · subst e
      have := hl q hq
      omega
    · rw [o2 q hq e]; exact hl3 q hq
  obtain ⟨g2, j1, j2, j3⟩ := pj_join (k := gt (L a) 0) hb hlo d2
  obtain ⟨p1, p2⟩ := app_len (L := outL L (gt (L a) 0)) (r := b) (k := gt (L a) 0)
  rw [o2 b hb (fun e => hab2 e.symm)] at p1
  have hN : ∀ q, q < 4 → q ≠ b → q ≠ a → movL L b (gt (L a) 0) q = L q := fun q hq e1 e2 => by
    show appL (outL L (gt (L a) 0)) b (gt (L a) 0) q = L q
    rw [p2 q e1, o2 q hq e2]
  have hNa : (movL L b (gt (L a) 0) a).length + 1 = (L a).length := by
    show (appL (outL L (gt (L a) 0)) b (gt (L a) 0) a).length + 1 = _
    rw [p2 a hab2]; exact o1
  have hNb : (movL L b (gt (L a) 0) b).length = (L b).length + 1 := p1
  have hNbm : ∀ k, k ∈ L b → k ∈ movL L b (gt (L a) 0) b := fun k hk2 => by
    show k ∈ appL (outL L (gt (L a) 0)) b (gt (L a) 0) b
    unfold appL
    rw [up_s, o2 b hb (fun e => hab2 e.symm)]
    exact List.mem_append_left _ hk2
  refine ⟨movL L b (gt (L a) 0), va_up S 7 c2, g2, ?_, ?_, ok_mov hL hk100, by rw [up_s]; exact c3, fun q hq => up_n hq, j2, d3.t j3, ?_, ?_, ?_, ?_⟩
  · rw [c1]; rfl
  · rw [d1, b2_e, j1]; rfl
  · rcases hab with ⟨rfl, rfl⟩ | ⟨rfl, rfl⟩
    · rw [hN 1 (by decide) (by decide) (by decide), hN 3 (by decide) (by decide) (by decide)]
      omega
    · rw [hN 0 (by decide) (by decide) (by decide), hN 2 (by decide) (by decide) (by decide)]
      omega
  · intro k hk2
    rcases hab with ⟨rfl, rfl⟩ | ⟨rfl, rfl⟩
    · exact hNbm k hk2
    · rw [hN 2 (by decide) (by decide) (by decide)]; exact hk2
  · intro k hk2
    rcases hab with ⟨rfl, rfl⟩ | ⟨rfl, rfl⟩
    · rw [hN 3 (by decide) (by decide) (by decide)]; exact hk2
    · exact hNbm k hk2
  · intro k hn r hr hin
    have hin : k ∈ appL (outL L (gt (L a) 0)) b (gt (L a) 0) r := hin
    unfold appL at hin
    by_cases e : r = b
    · subst e
      rw [up_s] at hin
      rcases List.mem_append.mp hin with h1 | h1
      · exact hn r hr (out_sub h1)
      · have h1 := List.mem_singleton.mp h1
        exact hn a ha (h1 ▸ hk)
    · rw [up_n e] at hin
      exact hn r hr (out_sub hin)
theorem fr_38 {L : Nat → List Nat} {S : Ob} {g : Sg} (hL : okL 4 L) (hR : RW 4 L Z1 (S 7)) (hM : FM L g) (hl : ∀ q, q < 4 → (L q).length ≤ 62) : RoomP L S g (f2_makeRoom_j38 S) (f11_makeRoom_j43 g) := by
  have c0 := hR.1 0 (by decide)
  have c1 := hR.1 1 (by decide)
  have m0 := hM.1 0 (by decide)
  have m1 := hM.1 1 (by decide)
  have l0 := hl 0 (by decide)
  have l1 := hl 1 (by decide)
  unfold f2_makeRoom_j38 f11_makeRoom_j43 f11_makeRoom_j81 f11_makeRoom_j67 f2_makeRoom_j56
  by_cases u0 : (L 1).length = 0
  · by_cases t0 : (L 0).length = 0
    · refine ⟨L, S, g, ?_, ?_, hL, hR, fun _ _ => rfl, hM, FF.r, ⟨rfl, rfl, Or.inr ⟨by omega, by omega⟩⟩, fun _ h => h, fun _ h => h, fun _ h => h⟩
      · rw [z_1, rd_n (by omega) (by omega), c1, u0, if_pos (show nI 0 = 0 from rfl)]
        rw [show f5_moveFirst 4 0 2 (S 7) = some (S 7) from pf_mv0 (a := 0) (b := 2) (by decide) hL hR t0, bd_e, st_e]
        exact congrArg some (up_id _ _)
      · rw [z_1, rd_n (by omega) (by omega), m1, u0, if_pos (show nI 0 = 0 from rfl), z_0, rd_n (by omega) (by omega), m0, t0, if_pos (show nI 0 ≤ nI 0 by decide), rd_n (by omega) (by omega), m1, u0, if_pos (show nI 0 ≤ nI 0 by decide)]
    · have h := fr_mv (S := S) (g := g) (a := 0) (b := 2) (Or.inl ⟨rfl, rfl⟩) hL hR hM hl (by omega)
      rw [z_1, rd_n (by omega) (by omega), rd_n (by omega) (by omega), c1, m1, u0, if_pos (show nI 0 = 0 from rfl), if_pos (show nI 0 = 0 from rfl), z_0, rd_n (show 0 < 4 by decide) (by omega), m0, if_neg (show ¬ nI (L 0).length ≤ nI 0 by rw [lep (by omega) (by omega)]; omega)]
      exact h
  · have h := fr_mv (S := S) (g := g) (a := 1) (b := 3) (Or.inr ⟨rfl, rfl⟩) hL hR hM hl (by omega)
    have hz : ¬ nI (L 1).length = 0 := by rw [z_0, eqp (by omega) (by omega)]; exact u0
    rw [z_1, rd_n (by omega) (by omega), rd_n (by omega) (by omega), c1, m1, if_neg hz, if_neg hz, rd_n (show 1 < 4 by decide) (by omega), m1, if_neg (show ¬ nI (L 1).length ≤ 0 by rw [z_0, lep (by omega) (by omega)]; omega)]
    exact h
theorem fr_room {L : Nat → List Nat} {S : Ob} {g : Sg} {p : Nat} {b : Int32} (hL : okL 4 L) (hR : RW 4 L Z1 (S 7)) (hp : S 6 0 2 = nI p) (hM : FM L g) (hg : g 0 16 = nI p) (hp30 : p ≤ 30) (hl : ∀ q, q < 4 → (L q).length ≤ 62) : RoomP L S g (f2_makeRoom b S) (f11_makeRoom b g) := by
  have c0 := hR.1 0 (by decide)
  have m0 := hM.1 0 (by decide)
  have l0 := hl 0 (by decide)
  have h38 := fr_38 hL hR hM hl
  unfold f2_makeRoom f11_makeRoom f2_makeRoom_j34 f11_makeRoom_j39
  rw [z_0, rd_n (by omega) (by omega), rd_n (by omega) (by omega), rd_n (show 0 < 4 by decide) (by omega), rd_n (show 0 < 4 by decide) (by omega), c0, m0, hp, hg]
  by_cases t0 : (L 0).length = 0
  · have hz : nI (L 0).length ≤ nI 0 := by rw [t0]; decide
    have e1 : ∀ {α : Type} {x y : α}, (if nI (L 0).length ≤ (0 : Int32) then x else y) = x := fun {α x y} => if_pos hz
    rw [if_pos hz, if_pos hz]
    exact h38
  · have hz : ¬ nI (L 0).length ≤ nI 0 := by rw [lep (by omega) (by omega)]; omega
    rw [if_neg hz, if_neg hz]
    have hA : RoomP L S g (f2_makeRoom_j56 S) (f11_makeRoom_j67 g) := fr_mv (S := S) (g := g) (a := 0) (b := 2) (Or.inl ⟨rfl, rfl⟩) hL hR hM hl (by omega)
    by_cases h1 : nI p < nI (L 0).length
    · rw [if_pos h1, if_pos h1]; exact hA
    · rw [if_neg h1, if_neg h1]
      by_cases h2 : nI (L 0).length = nI p
      · rw [if_pos h2, if_pos h2]
        by_cases h3 : b = nI 0
        · rw [if_pos h3, if_pos h3]; exact h38
        · rw [if_neg h3, if_neg h3]; exact hA
      · rw [if_neg h2, if_neg h2]; exact h38
/-! what class and reference hold -/
def FS (n p : Nat) (L : Nat → List Nat) (S : Ob) (g : Sg) : Prop := okL 4 L ∧ RW 4 L Z1 (S 7) ∧ (S 6 0 1 = nI n ∧ S 6 0 2 = nI p ∧ g 0 16 = nI p ∧ p ≤ n) ∧ FM L g ∧ ((L 0).length + (L 2).length ≤ n ∧ (L 0).length + (L 1).length ≤ n ∧ (L 0).length + (L 1).length + (L 2).length + (L 3).length ≤ 2 * n)
def FR (S S2 : Ob) : Prop := ∀ q, q ≠ 6 → q ≠ 7 → S2 q = S q
def FG (g g2 : Sg) : Prop := (∀ o, o ≠ 0 → o ≠ 10 → o ≠ 11 → g2 o = g o) ∧ ∀ j, j ≠ 16 → g2 0 j = g 0 j
theorem FF.g {g g2 : Sg} (h : FF g g2) : FG g g2 := ⟨fun o _ h1 h2 => h o h1 h2, fun j _ => by rw [h 0 (by decide) (by decide)]⟩
theorem FG.t {a b c : Sg} (h1 : FG a b) (h2 : FG b c) : FG a c := ⟨fun o x y z => (h2.1 o x y z).trans (h1.1 o x y z), fun j hj => (h2.2 j hj).trans (h1.2 j hj)⟩
theorem FR.t {a b c : Ob} (h1 : FR a b) (h2 : FR b c) : FR a c := fun q x y => (h2 q x y).trans (h1 q x y)
/-- room for a new key -/
theorem fr_new {L : Nat → List Nat} {S : Ob} {g : Sg} {n p k : Nat} (hn1 : 1 ≤ n) (hn : n ≤ 30) (h : FS n p L S g) (hk : ∀ r, r < 4 → k ∉ L r) : ∃ N S2 g2, f2_makeRoomForNew S = some S2 ∧ f11_otherKey (nI k) (nI n) g = f11_otherKey_j128 (nI k) g2 ∧ okL 4 N ∧ RW 4 N Z1 (S2 7) ∧ (∀ q, q ≠ 7 → S2 q = S q) ∧ FM N g2 ∧ FF g g2 ∧ ((N 0).length + (N 2).length < n ∧ (N 0).length + (N 1).length < n ∧ (N 0).length + (N 1).length + (N 2).length + (N 3).length < 2 * n) ∧ ∀ r, r < 4 → k ∉ N r := by
  obtain ⟨hL, hR, ⟨h1, h2, h3, h4⟩, hM, h5, h6, h7⟩ := h
  have c0 := hR.1 0 (by decide)
  have c1 := hR.1 1 (by decide)
  have c2 := hR.1 2 (by decide)
  have c3 := hR.1 3 (by decide)
  have m0 := hM.1 0 (by decide)
  have m1 := hM.1 1 (by decide)
  have m2 := hM.1 2 (by decide)
  have m3 := hM.1 3 (by decide)
  have hl : ∀ q, q < 4 → (L q).length ≤ 62 := lt4 (by omega) (by omega) (by omega) (by omega)
  have hl3 : ∀ q, q < 4 → (L q).length ≤ 63 := fun q hq => Nat.le_trans (hl q hq) (by decide)
  unfold f2_makeRoomForNew f11_otherKey f11_otherKey_j123 f2_makeRoomForNew_j113
  simp (disch := omega) only [z_0, z_1, z_2, z_3, rd_n, c0, c1, c2, c3, m0, m1, m2, m3, h1, nI_add, pk_mul, ltp, lep, eqp]
  by_cases d1 : (L 0).length + (L 2).length < n
  · rw [if_pos d1, if_neg (show ¬ (L 0).length + (L 2).length = n by omega)]
    by_cases d2 : (L 0).length + (L 1).length + (L 2).length + (L 3).length < n
    · rw [if_pos (show (L 0).length + (L 2).length + (L 1).length + (L 3).length < n by omega), if_pos d2]
      exact ⟨L, S, g, rfl, rfl, hL, hR, fun _ _ => rfl, hM, FF.r, ⟨d1, by omega, by omega⟩, hk⟩
    · rw [if_neg (show ¬ (L 0).length + (L 2).length + (L 1).length + (L 3).length < n by omega), if_neg d2]
      by_cases d3 : (L 0).length + (L 1).length + (L 2).length + (L 3).length < 2 * n
      · rw [if_pos (show (L 0).length + (L 2).length + (L 1).length + (L 3).length < 2 * n by omega), if_neg (show ¬ (L 0).length + (L 1).length + (L 2).length + (L 3).length = 2 * n by omega)]
        obtain ⟨N, S2, g2, r1, r2, r3, r4, r5, r6, r7, ⟨r8, r9, r10⟩, r11, r12, r13⟩ := fr_room (b := nI 0) hL hR h2 hM h3 (by omega) hl
        refine ⟨N, S2, g2, ?_, ?_, r3, r4, r5, r6, r7, ⟨by omega, by omega, by omega⟩, r13 k hk⟩
        · rw [r1]; rfl
        · rw [r2]; rfl
      · rw [if_neg (show ¬ (L 0).length + (L 2).length + (L 1).length + (L 3).length < 2 * n by omega), if_pos (show (L 0).length + (L 1).length + (L 2).length + (L 3).length = 2 * n by omega)]
        have h0 : 0 < (L 3).length := by omega
        obtain ⟨cc, x1, x2⟩ := pf_dr (a := 3) (by decide) hL hR h0
        obtain ⟨g1, y1, y2, y3⟩ := pj_out0 (r := 3) (by decide) hL hl3 hM h0
        obtain ⟨o1, o2⟩ := out_len hL (show 3 < 4 by decide) (gt_mem h0)
        have o0 := o2 0 (by decide) (by decide)
        have o1' := o2 1 (by decide) (by decide)
        have o2' := o2 2 (by decide) (by decide)
        have hlo : ∀ q, q < 4 → (outL L (gt (L 3) 0) q).length ≤ 62 := lt4 (by rw [o0]; exact hl 0 (by decide)) (by rw [o1']; exact hl 1 (by decide)) (by rw [o2']; exact hl 2 (by decide)) (by have := hl 3 (by decide); omega)
        obtain ⟨N, S2, g2, r1, r2, r3, r4, r5, r6, r7, ⟨r8, r9, r10⟩, r11, r12, r13⟩ := fr_room (S := va_up S 7 cc) (g := g1) (b := nI 0) (p := p) (ok_out hL _) (by rw [up_s]; exact x2) (by rw [up_n (by decide)]; exact h2) y2 (by rw [y3 0 (by decide) (by decide)]; exact h3) (by omega) hlo
        rw [o0, o2'] at r8
        rw [o1'] at r9
        rw [o0, o1'] at r10
        refine ⟨N, S2, g2, ?_, ?_, r3, r4, fun q hq => by rw [r5 q hq, up_n hq], r6, y3.t r7, ⟨by omega, by omega, by omega⟩, r13 k (fun r hr hin => hk r hr (out_sub hin))⟩
        · rw [x1, bd_e, st_e, r1]; rfl
        · rw [y1, b2_e, r2]; rfl
  · rw [if_neg d1, if_pos (show (L 0).length + (L 2).length = n by omega)]
    by_cases d2 : n ≤ (L 0).length
    · rw [if_pos d2, if_pos d2]
      have h0 : 0 < (L 0).length := by omega
      obtain ⟨cc, x1, x2⟩ := pf_dr (a := 0) (by decide) hL hR h0
      obtain ⟨g1, y1, y2, y3⟩ := pj_out0 (r := 0) (by decide) hL hl3 hM h0
      obtain ⟨o1, o2⟩ := out_len hL (show 0 < 4 by decide) (gt_mem h0)
      have o1' := o2 1 (by decide) (by decide)
      have o2' := o2 2 (by decide) (by decide)
      have o3 := o2 3 (by decide) (by decide)
      refine ⟨outL L (gt (L 0) 0), va_up S 7 cc, g1, ?_, ?_, ok_out hL _, by rw [up_s]; exact x2, fun q hq => up_n hq, y2, y3, ?_, fun r hr hin => hk r hr (out_sub hin)⟩
      · rw [x1]; rfl
      · rw [y1]; rfl
      · rw [o1', o2', o3]
        exact ⟨by omega, by omega, by omega⟩
    · rw [if_neg d2, if_neg d2]
      have h0 : 0 < (L 2).length := by omega
      obtain ⟨cc, x1, x2⟩ := pf_dr (a := 2) (by decide) hL hR h0
      obtain ⟨g1, y1, y2, y3⟩ := pj_out0 (r := 2) (by decide) hL hl3 hM h0
      obtain ⟨o1, o2⟩ := out_len hL (show 2 < 4 by decide) (gt_mem h0)
      have o0 := o2 0 (by decide) (by decide)
      have o1' := o2 1 (by decide) (by decide)
      have o3 := o2 3 (by decide) (by decide)
      have hlo : ∀ q, q < 4 → (outL L (gt (L 2) 0) q).length ≤ 62 := lt4 (by rw [o0]; exact hl 0 (by decide)) (by rw [o1']; exact hl 1 (by decide)) (by have := hl 2 (by decide); omega) (by rw [o3]; exact hl 3 (by decide))
      obtain ⟨N, S2, g2, r1, r2, r3, r4, r5, r6, r7, ⟨r8, r9, r10⟩, r11, r12, r13⟩ := fr_room (S := va_up S 7 cc) (g := g1) (b := nI 0) (p := p) (ok_out hL _) (by rw [up_s]; exact x2) (by rw [up_n (by decide)]; exact h2) y2 (by rw [y3 0 (by decide) (by decide)]; exact h3) (by omega) hlo
      rw [o0] at r8
      rw [o1', o3] at r9
      rw [o0, o1'] at r10
      refine ⟨N, S2, g2, ?_, ?_, r3, r4, fun q hq => by rw [r5 q hq, up_n hq], r6, y3.t r7, ⟨by omega, by omega, by omega⟩, r13 k (fun r hr hin => hk r hr (out_sub hin))⟩
      · rw [x1, bd_e, st_e, r1]; rfl
      · rw [y1, b2_e, r2]; rfl
