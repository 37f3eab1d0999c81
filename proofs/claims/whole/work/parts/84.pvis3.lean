theorem KF.n {A : AK} {x y : Nat → Int32} (_h : KF x y) (h2 : RN A y) : RN A y := h2
/-- RV is kept by what changes none of its numbers but outs -/
theorem RV.fr {C mode W step per ch ca cb : Nat} {o o2 acc hits dir : Int32} {T : List Nat} {x y : Nat → Int32} (h : RV C mode W step per ch ca cb o acc hits dir T x) (hT : T.length ≤ 300) (e : ∀ j, ((603 ≤ j ∧ j < 606) ∨ (1393 ≤ j ∧ j < 1395) ∨ (1397 ≤ j ∧ j < 1705 ∧ j ≠ 1399)) → y j = x j) (ho : y 1399 = o2) : RV C mode W step per ch ca cb o2 acc hits dir T y := by
  obtain ⟨⟨x4, x5, x6⟩, ⟨x7, x8⟩, ⟨x9, x10, x11, x12⟩, ⟨x13, x14, x15⟩, x16, x17⟩ := h
  refine ⟨⟨?_, ?_, ?_⟩, ⟨?_, ?_⟩, ⟨?_, ?_, ho, ?_⟩, ⟨?_, ?_, ?_⟩, ?_, fun i hi => ?_⟩
  · rw [e _ (by omega)]; exact x4
  · rw [e _ (by omega)]; exact x5
  · rw [e _ (by omega)]; exact x6
  · rw [e _ (by omega)]; exact x7
  · rw [e _ (by omega)]; exact x8
  · rw [e _ (by omega)]; exact x9
  · rw [e _ (by omega)]; exact x10
  · rw [e _ (by omega)]; exact x12
  · rw [e _ (by omega)]; exact x13
  · rw [e _ (by omega)]; exact x14
  · rw [e _ (by omega)]; exact x15
  · rw [e _ (by omega)]; exact x16
  · rw [e _ (by omega)]; exact x17 i hi
theorem RT.fr {D : Nat} {A : AK} {x y : Nat → Int32} (h : RT D A x) (e : ∀ j, 1705 ≤ j → y j = x j) : RT D A y := fun k hk => by rw [e _ (by omega)]; exact h k hk
theorem RC.eq {C mode W : Nat} {o o2 : Int32} {c : Nat → Int32} (h : RC C mode W o c) (e : o = o2) : RC C mode W o2 c := e ▸ h
/-- the class's state, its cache and rows put anew -/
theorem RS.mk {D C : Nat} {A : AK} {w p q w2 p2 q2 : List Nat} {Z : Nat → Nat} {mode W step per ch ca cb : Nat} {o o2 acc hits dir : Int32} {T : List Nat} {S : Ob} {c : Nat → Int32} {g : Sg} (h : RS D C (A, (w, p, q), Z, (mode, W, step, per, ch, ca, cb), (o, acc, hits, dir), T) S) (hc : RC C mode W o2 c) (hR : RW 3 (L3 w2 p2 q2) Z g) : RS D C (A, (w2, p2, q2), Z, (mode, W, step, per, ch, ca, cb), (o2, acc, hits, dir), T) (mkS S c g) := by
  obtain ⟨s1, s2, s3, s4, s5, s6, s7⟩ := h
  have ho : ∀ i, i ≠ 1 → i ≠ 3 → mkS S c g i = S i := fun i h1 h3 => by
    unfold mkS
    rw [up_n h3, up_n h1]
  refine ⟨?_, ?_, ?_, ?_, ?_, ?_, ?_⟩
  · rw [ho 2 (by decide) (by decide)]; exact s1
  · rw [mk_3]; exact hR
  · rw [mk_1]; exact hc
  · rw [ho 4 (by decide) (by decide)]; exact s4
  · rw [ho 5 (by decide) (by decide)]; exact s5
  · rw [ho 0 (by decide) (by decide)]; exact s6
  · rw [ho 0 (by decide) (by decide)]; exact s7
/-- behind the count: the parts change, then the climb -/
theorem vis_mid {D C : Nat} {A : AK} {w p q : List Nat} {Z : Nat → Nat} {mode W step per ch ca cb : Nat} {o acc hits dir : Int32} {T : List Nat} {S : Ob} {g : Sg} {x : Nat → Int32} {k : Nat} (hC : C ≤ 200) (hC4 : 4 ≤ C) (h0 : g 0 0 = nI D) (h1 : g 0 1 = nI C) (hk : k < 100) (hok : okS D C (A, (w, p, q), Z, (mode, W, step, per, ch, ca, cb), (o, acc, hits, dir), T)) (hS : RS D C (A, (w, p, q), Z, (mode, W, step, per, ch, ca, cb), (o, acc, hits, dir), T) S) (hX : RX D C (A, (w, p, q), Z, (mode, W, step, per, ch, ca, cb), (o, acc, hits, dir), T) x) :
    ∃ v S2 y s2 t, (rd 100 (S 3 4) (nI k) (fun v11 => (if v11 = (-1 : Int32) then ((f0_bringIn (nI k) S).bind (fun S14 => ((f0_overflow S14).bind (fun S17 => (f8_visit_j93 (nI k) v11 (0 : Int32) S17))))) else (st (va_up S 0 (va_up (S 0) 0 (upd (S 0 0) 4 ((S 0 0 4) + (1 : Int32))))) (fun S19 => ((f0_touch (nI k) S19).bind (fun S21 => (f8_visit_j93 (nI k) v11 (1 : Int32) S21)))))))) = some (v, S2) ∧ ((f11_partOf (va_up g 1 x) (nI k)).bind (fun r25 => (if r25 < 0 then (rd 1805 ((va_up g 1 x) 1) ((990 : Int32) + (nI k)) (fun v29 => (if ((va_up g 1 x) 0 1) < v29 then (f11_accessed_j209 (nI k) r25 (va_up g 1 x)) else (rd 1805 ((va_up g 1 x) 1) ((990 : Int32) + (nI k)) (fun v32 => (rd 1805 ((va_up g 1 x) 1) (1393 : Int32) (fun v34 => (if v32 ≤ v34 then ((f11_append (0 : Int32) (nI k) (va_up g 1 x)).bind (fun g37 => ((f11_overflow g37).bind (fun g40 => (f11_accessed_j209 (nI k) r25 g40))))) else ((f11_candidate (nI k) (va_up g 1 x)).bind (fun g43 => (f11_accessed_j209 (nI k) r25 g43))))))))))) else ((f11_indexOf (va_up g 1 x) r25 (nI k)).bind (fun r46 => (b2 (f11_take r25 r46 (va_up g 1 x)) (fun r50 g49 => (if r25 = 0 then ((f11_append (0 : Int32) r50 g49).bind (fun g60 => ((f11_settle g60).bind (fun g63 => (f11_accessed_j209 (nI k) r25 g63))))) else ((f11_append (2 : Int32) r50 g49).bind (fun g54 => ((f11_settle g54).bind (fun g57 => (f11_accessed_j209 (nI k) r25 g57))))))))))))) = some (v, va_up g 1 y) ∧ okS D C s2 ∧ RS D C s2 S2 ∧ RX D C s2 y ∧ y 1398 = x 1398 + nI t ∧ t ≤ 1 ∧ (v < nI 2 ↔ t = 0) := by
  have hok0 := hok
  have hS0 := hS
  have hX0 := hX
  obtain ⟨k1, k2, k3, k4, ⟨k5, k6⟩, k7, k8, ⟨k9, k10, k11, k12, k13⟩, k14, ⟨k15, k15b⟩, k16, k17, k18⟩ := hok
  obtain ⟨s1, s2, s3, s4, s5, s6, s7⟩ := hS
  obtain ⟨x1, x2, x3, xV⟩ := hX
  have xV0 := xV
  obtain ⟨⟨x4, x5, x6⟩, ⟨x7, x8⟩, ⟨x9, x10, x11, x12⟩, ⟨x13, x14, x15⟩, x16, x17⟩ := xV
  have hzk := k4 k hk
  by_cases hin : ∃ r, r < 3 ∧ k ∈ L3 w p q r
  · -- it is there
    obtain ⟨r, hr, hkr⟩ := hin
    have e4 := (s2.2.2.2.1 k hk).1 r hr hkr
    have ep := pm_part (g := va_up g 1 x) hr k3 x3 hk hkr
    obtain ⟨S1, hS1⟩ : ∃ z, z = va_up S 0 (va_up (S 0) 0 (upd (S 0 0) 4 (hits + nI 1))) := ⟨_, rfl⟩
    have ho : ∀ i, i ≠ 0 → S1 i = S i := fun i hi => by rw [hS1, up_n hi]
    have hRS1 : RS D C (A, (w, p, q), Z, (mode, W, step, per, ch, ca, cb), (o, acc, hits + nI 1, dir), T) S1 := by
      refine ⟨?_, ?_, ?_, ?_, ?_, ?_, ?_⟩
      · rw [ho 2 (by decide)]; exact s1
      · rw [ho 3 (by decide)]; exact s2
      · rw [ho 1 (by decide)]; exact s3
      · rw [ho 4 (by decide)]; exact s4
      · rw [ho 5 (by decide)]; exact s5
      · rw [hS1, up_s, up_s, ud_n (by decide)]; exact s6
      · rw [hS1, up_s, up_s, ud_s]
    have hmk : S1 = mkS S1 (S1 1 0) (S1 3) := mk_id.symm
    have hRS1' := hRS1
    obtain ⟨t1, t2, t3, t4, t5, t6, t7⟩ := hRS1'
    have e41 : S1 3 4 k = nI r := (t2.2.2.2.1 k hk).1 r hr hkr
    -- what is left to show, once the class's touch and the reference's move are known
    have fin : ∀ (w2 p2 q2 : List Nat) (c2 : Nat → Int32) (g2 : Sg) (y : Nat → Int32), f0_touch (nI k) S1 = some (mkS S1 c2 g2) → RC C mode W o c2 → RW 3 (L3 w2 p2 q2) Z g2 → okL 3 (L3 w2 p2 q2) → (uS Z w2 ≤ W ∧ uS Z (p2 ++ q2) ≤ C - W ∧ uS Z q2 ≤ (C - W) * 4 / 5) → QF x y → RQ (L3 w2 p2 q2) Z y → ∃ v S2 y2 s2, (f0_touch (nI k) S1).bind (fun S21 => (f8_visit_j93 (nI k) (nI r) (nI 1) S21)) = some (v, S2) ∧ f11_accessed_j209 (nI k) (nI r) (va_up g 1 y) = some (v, va_up g 1 y2) ∧ okS D C s2 ∧ RS D C s2 S2 ∧ RX D C s2 y2 ∧ y2 1398 = x 1398 + nI 1 ∧ (v < nI 2 ↔ 1 = 0) := by
      intro w2 p2 q2 c2 g2 y f1 f2 f3 f4 f5 f6 f7
      obtain ⟨v, S2, y2, s2', a1, a2, a3, a4, a5, a6, a7⟩ := vis_end (row := nI r) (t := 1) (hits := hits) hC hC4 h0 h1 hk (Or.inr ⟨rfl, r, hr, rfl⟩) (show okS D C (A, (w2, p2, q2), Z, (mode, W, step, per, ch, ca, cb), (o, acc, hits, dir), T) from ⟨k1, k2, f4, k4, ⟨k5, k6⟩, k7, k8, ⟨k9, k10, k11, k12, k13⟩, k14, ⟨k15, k15b⟩, f5⟩) (hRS1.mk f2 f3) (show RX D C (A, (w2, p2, q2), Z, (mode, W, step, per, ch, ca, cb), (o, acc, hits, dir), T) y from ⟨x1.fr (fun j hj => f6 j (by omega)), x2.fr (fun j hj => f6 j (by omega)), f7, xV0.fr k15 (fun j hj => f6 j (by omega)) (by rw [f6 _ (by omega)]; exact x11)⟩)
      refine ⟨v, S2, y2, s2', ?_, a2, a3, a4, a5, by rw [a6, x10], a7⟩
      rw [f1, bd_e]
      exact a1
    have hcls : (rd 100 (S 3 4) (nI k) (fun v11 => (if v11 = (-1 : Int32) then ((f0_bringIn (nI k) S).bind (fun S14 => ((f0_overflow S14).bind (fun S17 => (f8_visit_j93 (nI k) v11 (0 : Int32) S17))))) else (st (va_up S 0 (va_up (S 0) 0 (upd (S 0 0) 4 ((S 0 0 4) + (1 : Int32))))) (fun S19 => ((f0_touch (nI k) S19).bind (fun S21 => (f8_visit_j93 (nI k) v11 (1 : Int32) S21)))))))) = (f0_touch (nI k) S1).bind (fun S21 => (f8_visit_j93 (nI k) (nI r) (nI 1) S21)) := by
      rw [rd_n hk (by decide), e4, if_neg (nI_nm1 (by omega)), st_e, s7, hS1]
      rfl
    rw [hcls]
    have hlim : (C - W) * 4 / 5 < 1000 := by omega
    match r, hr, hkr, e4, ep, e41, fin with
    | 0, hr, hkr, e4, ep, e41, fin =>
      have hkw : k ∈ w := hkr
      have hkp : k ∉ p := fun h => absurd (k3.2 0 1 k (by decide) (by decide) hkr h) (by decide)
      have hkq : k ∉ q := fun h => absurd (k3.2 0 2 k (by decide) (by decide) hkr h) (by decide)
      obtain ⟨ps, p1, p2, p3, p4⟩ := pos_ex w hkw
      have hei : L3 (w.erase k ++ [k]) (p.erase k) (q.erase k) = L3 (w.erase k ++ [k]) p q := by rw [er_n hkp, er_n hkq]
      obtain ⟨g2, m1, m2⟩ := pr_mov (r := 0) (by decide) (by decide) k3 k4 t2 hk
      have m3 := ok_mov k3 (r := 0) hk
      rw [movL, L3_out, L3_a0, hei] at m2 m3
      obtain ⟨y1, b1, b2, b3⟩ := pm_take (g := g) (r := 0) (i := ps) (by decide) k3 x3 p1
      rw [L3_e0, ← p4] at b2
      have b1 : f11_take (nI 0) (nI ps) (va_up g 1 x) = some (nI (gt w ps), va_up g 1 y1) := b1
      rw [p2] at b1
      have b4 : okL 3 (L3 (w.erase k) p q) := by
        have := ok_out k3 k
        rw [L3_out, er_n hkp, er_n hkq] at this
        exact this
      have hnm : k ∉ w.erase k := fun h => ((List.Nodup.mem_erase_iff (k3.1 0 (by decide)).1).mp h).1 rfl
      obtain ⟨y2, d1, d2, d3⟩ := pm_app (g := g) (r := 0) (k := k) (by decide) b4 b2 (b4.lt (r := 0) (by decide) hk hnm)
      rw [L3_a0] at d2
      have bd := b3.t d3
      have hql : q.length ≤ 100 := k3.len (r := 2) (by decide)
      obtain ⟨y3, n1, n2, n3⟩ := pm_settleL (g := g) (w := w.erase k ++ [k]) k4 hlim q p y2 NF m3 d2 (by rw [bd _ (by omega)]; exact x8) (by show _ < 8000; omega)
      rw [setl_id k18] at n2
      have hidx : f11_indexOf (va_up g 1 x) (nI 0) (nI k) = some (nI ps) := pm_idx (L := L3 w p q) (r := 0) (by decide) k3 x3 hk p1 p2 p3
      have hps : ps < 100 := by have : w.length ≤ 100 := k3.len (r := 0) (by decide); omega
      obtain ⟨v, S2, y4, s4', z1, z2, z3⟩ := fin (w.erase k ++ [k]) p q (S1 1 0) g2 y3 (by
        unfold f0_touch
        simp (disch := omega) only [rd_n, ck_n, wr_n, cl_n, st_e, b2_e, bd_e, ltp, lep, eqp, m1p, m1l, m1e, m1a, nI_add, pk_sub, pk_mul, dvp, nzp, up_s, up_x, up_01, if_true, if_false, Nat.not_lt_zero, Nat.zero_add, z_0, z_1, z_2, z_3, z_4, z_5, z_10, z_11, z_15, z_20, z_30, z_63, z_64, z_99, z_100, z_127, z_128, z_200, z_256, z_300, z_400, z_500, z_600, z_601, z_602, z_603, z_604, z_605, z_606, z_862, z_990, z_1000, z_1090, z_1390, z_1393, z_1394, z_1395, z_1396, z_1397, z_1398, z_1399, z_1400, z_1401, z_1402, z_1403, z_1404, z_1405, z_1705, z_1805, z_7220, e41, if_neg (show ¬ 0 = 1 by decide), m1]
        congr 1
        have e := mk_u3 (S := S1) (c := S1 1 0) (g := S1 3) (h := g2)
        rw [mk_id] at e
        exact e) t3 m2 m3 ⟨by rw [uS_mv hkw]; exact k16, k17, k18⟩ (bd.t n3) n2
      refine ⟨v, S2, y4, s4', 1, z1, ?_, z3.1, z3.2.1, z3.2.2.1, z3.2.2.2.1, by decide, z3.2.2.2.2⟩
      unfold f11_settle
      simp (disch := omega) only [rd_n, ck_n, wr_n, cl_n, st_e, b2_e, bd_e, ltp, lep, eqp, m1p, m1l, m1e, m1a, nI_add, pk_sub, pk_mul, dvp, nzp, up_s, up_x, up_01, if_true, if_false, Nat.not_lt_zero, Nat.zero_add, z_0, z_1, z_2, z_3, z_4, z_5, z_10, z_11, z_15, z_20, z_30, z_63, z_64, z_99, z_100, z_127, z_128, z_200, z_256, z_300, z_400, z_500, z_600, z_601, z_602, z_603, z_604, z_605, z_606, z_862, z_990, z_1000, z_1090, z_1390, z_1393, z_1394, z_1395, z_1396, z_1397, z_1398, z_1399, z_1400, z_1401, z_1402, z_1403, z_1404, z_1405, z_1705, z_1805, z_7220, ep, hidx, b1, d1, n1]
      exact z2
    | 1, hr, hkr, e4, ep, e41, fin =>
      have hkp : k ∈ p := hkr
      have hkw : k ∉ w := fun h => absurd (k3.2 0 1 k (by decide) (by decide) h hkr) (by decide)
      have hkq : k ∉ q := fun h => absurd (k3.2 1 2 k (by decide) (by decide) hkr h) (by decide)
      obtain ⟨ps, p1, p2, p3, p4⟩ := pos_ex p hkp
      have hei : L3 (w.erase k) (p.erase k) (q.erase k ++ [k]) = L3 w (p.erase k) (q ++ [k]) := by rw [er_n hkw, er_n hkq]
      obtain ⟨g2, m1, m2⟩ := pr_mov (r := 2) (by decide) (by decide) k3 k4 t2 hk
      have m3 := ok_mov k3 (r := 2) hk
      rw [movL, L3_out, L3_a2, hei] at m2 m3
      obtain ⟨y1, b1, b2, b3⟩ := pm_take (g := g) (r := 1) (i := ps) (by decide) k3 x3 p1
      rw [L3_e1, ← p4] at b2
      have b1 : f11_take (nI 1) (nI ps) (va_up g 1 x) = some (nI (gt p ps), va_up g 1 y1) := b1
      rw [p2] at b1
      have b4 : okL 3 (L3 w (p.erase k) q) := by
        have := ok_out k3 k
        rw [L3_out, er_n hkw, er_n hkq] at this
        exact this
      obtain ⟨y2, d1, d2, d3⟩ := pm_app (g := g) (r := 2) (k := k) (by decide) b4 b2 (b4.lt (r := 2) (by decide) hk hkq)
      rw [L3_a2] at d2
      have bd := b3.t d3
      have hql : (q ++ [k]).length ≤ 100 := m3.len (r := 2) (by decide)
      obtain ⟨y3, n1, n2, n3⟩ := pm_settleL (g := g) (w := w) k4 hlim (q ++ [k]) (p.erase k) y2 NF m3 d2 (by rw [bd _ (by omega)]; exact x8) (by show _ < 8000; omega)
      obtain ⟨g3, c1, c2, c3⟩ := pc_settle (S := S1) k4 hC (by omega) t3 m3 m2
      have hidx : f11_indexOf (va_up g 1 x) (nI 1) (nI k) = some (nI ps) := pm_idx (L := L3 w p q) (r := 1) (by decide) k3 x3 hk p1 p2 p3
      have hps : ps < 100 := by have : p.length ≤ 100 := k3.len (r := 1) (by decide); omega
      have hso := setl_ok (Z := Z) (lim := (C - W) * 4 / 5) (q ++ [k]) (p.erase k)
      obtain ⟨v, S2, y4, s4', z1, z2, z3⟩ := fin w _ _ (S1 1 0) g3 y3 (by
        unfold f0_touch
        simp (disch := omega) only [rd_n, ck_n, wr_n, cl_n, st_e, b2_e, bd_e, ltp, lep, eqp, m1p, m1l, m1e, m1a, nI_add, pk_sub, pk_mul, dvp, nzp, up_s, up_x, up_01, if_true, if_false, Nat.not_lt_zero, Nat.zero_add, z_0, z_1, z_2, z_3, z_4, z_5, z_10, z_11, z_15, z_20, z_30, z_63, z_64, z_99, z_100, z_127, z_128, z_200, z_256, z_300, z_400, z_500, z_600, z_601, z_602, z_603, z_604, z_605, z_606, z_862, z_990, z_1000, z_1090, z_1390, z_1393, z_1394, z_1395, z_1396, z_1397, z_1398, z_1399, z_1400, z_1401, z_1402, z_1403, z_1404, z_1405, z_1705, z_1805, z_7220, e41, m1]
        have e := mk_u3 (S := S1) (c := S1 1 0) (g := S1 3) (h := g2)
        rw [mk_id] at e
        rw [e, c1, bd_e]) t3 c2 c3 ⟨k16, by
          rw [hso.2, ← List.append_assoc, uS_app, uS_app]
          have h9 := uS_erase (Z := Z) p hkp
          rw [uS_app] at k17
          have h8 : uS Z [k] = Z k := rfl
          omega, hso.1⟩ (bd.t n3) n2
      refine ⟨v, S2, y4, s4', 1, z1, ?_, z3.1, z3.2.1, z3.2.2.1, z3.2.2.2.1, by decide, z3.2.2.2.2⟩
      unfold f11_settle
      simp (disch := omega) only [rd_n, ck_n, wr_n, cl_n, st_e, b2_e, bd_e, ltp, lep, eqp, m1p, m1l, m1e, m1a, nI_add, pk_sub, pk_mul, dvp, nzp, up_s, up_x, up_01, if_true, if_false, Nat.not_lt_zero, Nat.zero_add, z_0, z_1, z_2, z_3, z_4, z_5, z_10, z_11, z_15, z_20, z_30, z_63, z_64, z_99, z_100, z_127, z_128, z_200, z_256, z_300, z_400, z_500, z_600, z_601, z_602, z_603, z_604, z_605, z_606, z_862, z_990, z_1000, z_1090, z_1390, z_1393, z_1394, z_1395, z_1396, z_1397, z_1398, z_1399, z_1400, z_1401, z_1402, z_1403, z_1404, z_1405, z_1705, z_1805, z_7220, ep, hidx, b1, if_neg (show ¬ 1 = 0 by decide), d1, n1]
      exact z2
    | 2, hr, hkr, e4, ep, e41, fin =>
      have hkq : k ∈ q := hkr
      have hkw : k ∉ w := fun h => absurd (k3.2 0 2 k (by decide) (by decide) h hkr) (by decide)
      have hkp : k ∉ p := fun h => absurd (k3.2 1 2 k (by decide) (by decide) h hkr) (by decide)
      obtain ⟨ps, p1, p2, p3, p4⟩ := pos_ex q hkq
      have hei : L3 (w.erase k) (p.erase k) (q.erase k ++ [k]) = L3 w p (q.erase k ++ [k]) := by rw [er_n hkw, er_n hkp]
      obtain ⟨g2, m1, m2⟩ := pr_mov (r := 2) (by decide) (by decide) k3 k4 t2 hk
      have m3 := ok_mov k3 (r := 2) hk
      rw [movL, L3_out, L3_a2, hei] at m2 m3
      obtain ⟨y1, b1, b2, b3⟩ := pm_take (g := g) (r := 2) (i := ps) (by decide) k3 x3 p1
      rw [L3_e2, ← p4] at b2
      have b1 : f11_take (nI 2) (nI ps) (va_up g 1 x) = some (nI (gt q ps), va_up g 1 y1) := b1
      rw [p2] at b1
      have b4 : okL 3 (L3 w p (q.erase k)) := by
        have := ok_out k3 k
        rw [L3_out, er_n hkw, er_n hkp] at this
        exact this
      have hnm : k ∉ q.erase k := fun h => ((List.Nodup.mem_erase_iff (k3.1 2 (by decide)).1).mp h).1 rfl
      obtain ⟨y2, d1, d2, d3⟩ := pm_app (g := g) (r := 2) (k := k) (by decide) b4 b2 (b4.lt (r := 2) (by decide) hk hnm)
      rw [L3_a2] at d2
      have bd := b3.t d3
      have hql : (q.erase k ++ [k]).length ≤ 100 := m3.len (r := 2) (by decide)
      obtain ⟨y3, n1, n2, n3⟩ := pm_settleL (g := g) (w := w) k4 hlim (q.erase k ++ [k]) p y2 NF m3 d2 (by rw [bd _ (by omega)]; exact x8) (by show _ < 8000; omega)
      rw [setl_id (by rw [uS_mv hkq]; exact k18)] at n2
      have hidx : f11_indexOf (va_up g 1 x) (nI 2) (nI k) = some (nI ps) := pm_idx (L := L3 w p q) (r := 2) (by decide) k3 x3 hk p1 p2 p3
      have hps : ps < 100 := by have : q.length ≤ 100 := k3.len (r := 2) (by decide); omega
      obtain ⟨v, S2, y4, s4', z1, z2, z3⟩ := fin w p (q.erase k ++ [k]) (S1 1 0) g2 y3 (by
        unfold f0_touch
        simp (disch := omega) only [rd_n, ck_n, wr_n, cl_n, st_e, b2_e, bd_e, ltp, lep, eqp, m1p, m1l, m1e, m1a, nI_add, pk_sub, pk_mul, dvp, nzp, up_s, up_x, up_01, if_true, if_false, Nat.not_lt_zero, Nat.zero_add, z_0, z_1, z_2, z_3, z_4, z_5, z_10, z_11, z_15, z_20, z_30, z_63, z_64, z_99, z_100, z_127, z_128, z_200, z_256, z_300, z_400, z_500, z_600, z_601, z_602, z_603, z_604, z_605, z_606, z_862, z_990, z_1000, z_1090, z_1390, z_1393, z_1394, z_1395, z_1396, z_1397, z_1398, z_1399, z_1400, z_1401, z_1402, z_1403, z_1404, z_1405, z_1705, z_1805, z_7220, e41, if_neg (show ¬ 2 = 1 by decide), m1]
        congr 1
        have e := mk_u3 (S := S1) (c := S1 1 0) (g := S1 3) (h := g2)
        rw [mk_id] at e
        exact e) t3 m2 m3 ⟨k16, by rw [uS_app, uS_mv hkq, ← uS_app]; exact k17, by rw [uS_mv hkq]; exact k18⟩ (bd.t n3) n2
      refine ⟨v, S2, y4, s4', 1, z1, ?_, z3.1, z3.2.1, z3.2.2.1, z3.2.2.2.1, by decide, z3.2.2.2.2⟩
      unfold f11_settle
      simp (disch := omega) only [rd_n, ck_n, wr_n, cl_n, st_e, b2_e, bd_e, ltp, lep, eqp, m1p, m1l, m1e, m1a, nI_add, pk_sub, pk_mul, dvp, nzp, up_s, up_x, up_01, if_true, if_false, Nat.not_lt_zero, Nat.zero_add, z_0, z_1, z_2, z_3, z_4, z_5, z_10, z_11, z_15, z_20, z_30, z_63, z_64, z_99, z_100, z_127, z_128, z_200, z_256, z_300, z_400, z_500, z_600, z_601, z_602, z_603, z_604, z_605, z_606, z_862, z_990, z_1000, z_1090, z_1390, z_1393, z_1394, z_1395, z_1396, z_1397, z_1398, z_1399, z_1400, z_1401, z_1402, z_1403, z_1404, z_1405, z_1705, z_1805, z_7220, ep, hidx, b1, if_neg (show ¬ 2 = 0 by decide), d1, n1]
      exact z2
  · -- it isn't there
    have hno : ∀ r, r < 3 → k ∉ L3 w p q r := fun r hr h => hin ⟨r, hr, h⟩
    have e4 := (s2.2.2.2.1 k hk).2 hno
    have ep := pm_partN (g := va_up g 1 x) k3 x3 hk hno
    have e9 := x3.2.2 k hk
    have e5 := s2.2.2.2.2 k hk
    have fin : ∀ (w2 p2 q2 : List Nat) (o2 : Int32) (c2 : Nat → Int32) (g2 : Sg) (y : Nat → Int32), RC C mode W o2 c2 → RW 3 (L3 w2 p2 q2) Z g2 → okL 3 (L3 w2 p2 q2) → (uS Z w2 ≤ W ∧ uS Z (p2 ++ q2) ≤ C - W ∧ uS Z q2 ≤ (C - W) * 4 / 5) → OF x y → y 1399 = o2 → RQ (L3 w2 p2 q2) Z y → ∃ v S2 y2 s2, f8_visit_j93 (nI k) (-1) (nI 0) (mkS S c2 g2) = some (v, S2) ∧ f11_accessed_j209 (nI k) (-1) (va_up g 1 y) = some (v, va_up g 1 y2) ∧ okS D C s2 ∧ RS D C s2 S2 ∧ RX D C s2 y2 ∧ y2 1398 = x 1398 + nI 0 ∧ (v < nI 2 ↔ 0 = 0) := by
      intro w2 p2 q2 o2 c2 g2 y f2 f3 f4 f5 f6 f6b f7
      have hz0 : hits + nI 0 = hits := Int32.add_zero hits
      obtain ⟨v, S2, y2, s2', a1, a2, a3, a4, a5, a6, a7⟩ := vis_end (row := -1) (t := 0) (hits := hits) hC hC4 h0 h1 hk (Or.inl ⟨rfl, rfl⟩) (show okS D C (A, (w2, p2, q2), Z, (mode, W, step, per, ch, ca, cb), (o2, acc, hits, dir), T) from ⟨k1, k2, f4, k4, ⟨k5, k6⟩, k7, k8, ⟨k9, k10, k11, k12, k13⟩, k14, ⟨k15, k15b⟩, f5⟩) (by rw [hz0]; exact hS0.mk f2 f3) (show RX D C (A, (w2, p2, q2), Z, (mode, W, step, per, ch, ca, cb), (o2, acc, hits, dir), T) y from ⟨x1.fr (fun j hj => f6 j (by omega)), x2.fr (fun j hj => f6 j (by omega)), f7, xV0.fr k15 (fun j hj => f6 j (by omega)) f6b⟩)
      exact ⟨v, S2, y2, s2', a1, a2, a3, a4, a5, by rw [a6, x10], a7⟩
    have hcls : (rd 100 (S 3 4) (nI k) (fun v11 => (if v11 = (-1 : Int32) then ((f0_bringIn (nI k) S).bind (fun S14 => ((f0_overflow S14).bind (fun S17 => (f8_visit_j93 (nI k) v11 (0 : Int32) S17))))) else (st (va_up S 0 (va_up (S 0) 0 (upd (S 0 0) 4 ((S 0 0 4) + (1 : Int32))))) (fun S19 => ((f0_touch (nI k) S19).bind (fun S21 => (f8_visit_j93 (nI k) v11 (1 : Int32) S21)))))))) = (f0_bringIn (nI k) (mkS S (S 1 0) (S 3))).bind (fun S14 => ((f0_overflow S14).bind (fun S17 => (f8_visit_j93 (nI k) (-1) (nI 0) S17)))) := by
      rw [rd_n hk (by decide), e4, if_pos rfl, mk_id]
      rfl
    have hmod : ∀ {α : Type} (a b : Option α), (if (-1 : Int32) < 0 then a else b) = a := fun a b => if_pos (by decide)
    rw [hcls, ep, bd_e, hmod]
    have hmz : nI 0 = (0 : Int32) := rfl
    by_cases hbig : C < Z k
    · have eo := pc_ovf (S := S) k1 s1 k4 hC (show W ≤ C by omega) k7 s3 k3 s2
      rw [ovf_id k16] at eo
      obtain ⟨g2, o1, o2, o3⟩ := eo
      rw [show (w, p, q, 0).2.2.2 = 0 from rfl, ud_50] at o1
      obtain ⟨v, S2, y2, s2', z1, z2, z3⟩ := fin w p q o (S 1 0) g2 x s3 o2 k3 ⟨k16, k17, k18⟩ (fun _ _ => rfl) x11 x3
      refine ⟨v, S2, y2, s2', 0, ?_, ?_, z3.1, z3.2.1, z3.2.2.1, z3.2.2.2.1, by decide, z3.2.2.2.2⟩
      · unfold f0_bringIn
        simp (disch := omega) only [rd_n, ck_n, wr_n, cl_n, st_e, b2_e, bd_e, ltp, lep, eqp, m1p, m1l, m1e, m1a, nI_add, pk_sub, pk_mul, dvp, nzp, up_s, up_x, up_01, if_true, if_false, Nat.not_lt_zero, Nat.zero_add, z_0, z_1, z_2, z_3, z_4, z_5, z_10, z_11, z_15, z_20, z_30, z_63, z_64, z_99, z_100, z_127, z_128, z_200, z_256, z_300, z_400, z_500, z_600, z_601, z_602, z_603, z_604, z_605, z_606, z_862, z_990, z_1000, z_1090, z_1390, z_1393, z_1394, z_1395, z_1396, z_1397, z_1398, z_1399, z_1400, z_1401, z_1402, z_1403, z_1404, z_1405, z_1705, z_1805, z_7220, mk_3, mk_1, e5, s3.1, if_neg (show ¬ Z k ≤ C by omega), o1]
        exact z1
      · simp (disch := omega) only [rd_n, ck_n, wr_n, cl_n, st_e, b2_e, bd_e, ltp, lep, eqp, m1p, m1l, m1e, m1a, nI_add, pk_sub, pk_mul, dvp, nzp, up_s, up_x, up_01, if_true, if_false, Nat.not_lt_zero, Nat.zero_add, z_0, z_1, z_2, z_3, z_4, z_5, z_10, z_11, z_15, z_20, z_30, z_63, z_64, z_99, z_100, z_127, z_128, z_200, z_256, z_300, z_400, z_500, z_600, z_601, z_602, z_603, z_604, z_605, z_606, z_862, z_990, z_1000, z_1090, z_1390, z_1393, z_1394, z_1395, z_1396, z_1397, z_1398, z_1399, z_1400, z_1401, z_1402, z_1403, z_1404, z_1405, z_1705, z_1805, z_7220, e9, h1, if_pos hbig]
        exact z2
    · by_cases hwin : Z k ≤ W
      · obtain ⟨g1, a1, a2⟩ := pr_app (r := 0) (by decide) (by decide) k3 k4 s2 hk hno
        have a3 := ok_app (r := 0) k3 hk hno
        rw [L3_a0] at a2 a3
        obtain ⟨g2, o1, o2, o3⟩ := pc_ovf (S := S) k1 s1 k4 hC (show W ≤ C by omega) k7 s3 a3 a2
        obtain ⟨y1, b1, b2, b3⟩ := pm_app (g := g) (r := 0) (k := k) (by decide) k3 x3 (k3.lt (r := 0) (by decide) hk (hno 0 (by decide)))
        rw [L3_a0] at b2
        obtain ⟨y2, d1, d2, d3, d4⟩ := pm_ovf (g := g) (mode := mode) k1 h0 h1 k4 hC (show W ≤ C by omega) k7 a3 b2 (b3.o.n x1) (by rw [b3 _ (by omega)]; exact x4) (by rw [b3 _ (by omega)]; exact x7)
        have hs := ovf_sum (Z := Z) (e := est D A) (mode := mode) (C := C) (W := W) (w ++ [k]) p q k17 k18
        obtain ⟨v, S2, y3, s2', z1, z2, z3⟩ := fin _ _ _ _ _ g2 y2 s3.o o2 o3 hs (b3.o.t d3) (by rw [d4, b3 _ (by omega), x11]) d2
        refine ⟨v, S2, y3, s2', 0, ?_, ?_, z3.1, z3.2.1, z3.2.2.1, z3.2.2.2.1, by decide, z3.2.2.2.2⟩
        · unfold f0_bringIn
          simp (disch := omega) only [rd_n, ck_n, wr_n, cl_n, st_e, b2_e, bd_e, ltp, lep, eqp, m1p, m1l, m1e, m1a, nI_add, pk_sub, pk_mul, dvp, nzp, up_s, up_x, up_01, if_true, if_false, Nat.not_lt_zero, Nat.zero_add, z_0, z_1, z_2, z_3, z_4, z_5, z_10, z_11, z_15, z_20, z_30, z_63, z_64, z_99, z_100, z_127, z_128, z_200, z_256, z_300, z_400, z_500, z_600, z_601, z_602, z_603, z_604, z_605, z_606, z_862, z_990, z_1000, z_1090, z_1390, z_1393, z_1394, z_1395, z_1396, z_1397, z_1398, z_1399, z_1400, z_1401, z_1402, z_1403, z_1404, z_1405, z_1705, z_1805, z_7220, mk_3, mk_1, e5, s3.1, if_pos (show Z k ≤ C by omega), s3.2.2.1, if_pos hwin, a1, mk_u3, o1]
          exact z1
        · simp (disch := omega) only [rd_n, ck_n, wr_n, cl_n, st_e, b2_e, bd_e, ltp, lep, eqp, m1p, m1l, m1e, m1a, nI_add, pk_sub, pk_mul, dvp, nzp, up_s, up_x, up_01, if_true, if_false, Nat.not_lt_zero, Nat.zero_add, z_0, z_1, z_2, z_3, z_4, z_5, z_10, z_11, z_15, z_20, z_30, z_63, z_64, z_99, z_100, z_127, z_128, z_200, z_256, z_300, z_400, z_500, z_600, z_601, z_602, z_603, z_604, z_605, z_606, z_862, z_990, z_1000, z_1090, z_1390, z_1393, z_1394, z_1395, z_1396, z_1397, z_1398, z_1399, z_1400, z_1401, z_1402, z_1403, z_1404, z_1405, z_1705, z_1805, z_7220, e9, h1, if_neg hbig, x7, if_pos hwin, b1, d1]
          exact z2
      · obtain ⟨g1, a1, a2, a3⟩ := pc_judge (S := S) k1 s1 k4 hC (show W ≤ C by omega) k7 s3 k3 s2 hk hno
        have eo := pc_ovf (S := S) k1 s1 k4 hC (show W ≤ C by omega) k7 (s3.o (m := (jd Z (est D A) mode (C - W) k p q).2.2)) a3 a2
        rw [ovf_id k16] at eo
        obtain ⟨g2, o1, o2, o3⟩ := eo
        rw [show (w, (jd Z (est D A) mode (C - W) k p q).1, (jd Z (est D A) mode (C - W) k p q).2.1, 0).2.2.2 = 0 from rfl, ud_50] at o1
        obtain ⟨y1, b1, b2, b3, b4⟩ := pm_cand (g := g) k1 h0 h1 k4 hC (show W ≤ C by omega) k7 hk k3 x3 x1 x4 x7 hno
        have hs := jd_sum (e := est D A) (mode := mode) (c := k) k17 k18
        obtain ⟨v, S2, y3, s2', z1, z2, z3⟩ := fin w _ _ _ _ g2 y1 (s3.o (m := (jd Z (est D A) mode (C - W) k p q).2.2)) o2 a3 ⟨k16, hs⟩ b3 (by rw [b4, x11]) b2
        refine ⟨v, S2, y3, s2', 0, ?_, ?_, z3.1, z3.2.1, z3.2.2.1, z3.2.2.2.1, by decide, z3.2.2.2.2⟩
        · unfold f0_bringIn
          simp (disch := omega) only [rd_n, ck_n, wr_n, cl_n, st_e, b2_e, bd_e, ltp, lep, eqp, m1p, m1l, m1e, m1a, nI_add, pk_sub, pk_mul, dvp, nzp, up_s, up_x, up_01, if_true, if_false, Nat.not_lt_zero, Nat.zero_add, z_0, z_1, z_2, z_3, z_4, z_5, z_10, z_11, z_15, z_20, z_30, z_63, z_64, z_99, z_100, z_127, z_128, z_200, z_256, z_300, z_400, z_500, z_600, z_601, z_602, z_603, z_604, z_605, z_606, z_862, z_990, z_1000, z_1090, z_1390, z_1393, z_1394, z_1395, z_1396, z_1397, z_1398, z_1399, z_1400, z_1401, z_1402, z_1403, z_1404, z_1405, z_1705, z_1805, z_7220, mk_3, mk_1, e5, s3.1, if_pos (show Z k ≤ C by omega), s3.2.2.1, if_neg hwin, a1, o1]
          exact z1
        · simp (disch := omega) only [rd_n, ck_n, wr_n, cl_n, st_e, b2_e, bd_e, ltp, lep, eqp, m1p, m1l, m1e, m1a, nI_add, pk_sub, pk_mul, dvp, nzp, up_s, up_x, up_01, if_true, if_false, Nat.not_lt_zero, Nat.zero_add, z_0, z_1, z_2, z_3, z_4, z_5, z_10, z_11, z_15, z_20, z_30, z_63, z_64, z_99, z_100, z_127, z_128, z_200, z_256, z_300, z_400, z_500, z_600, z_601, z_602, z_603, z_604, z_605, z_606, z_862, z_990, z_1000, z_1090, z_1390, z_1393, z_1394, z_1395, z_1396, z_1397, z_1398, z_1399, z_1400, z_1401, z_1402, z_1403, z_1404, z_1405, z_1705, z_1805, z_7220, e9, h1, if_neg hbig, x7, if_neg hwin, b1]
          exact z2
theorem RV.no {C mode W step per ch ca cb : Nat} {o acc acc2 hits dir : Int32} {T T2 : List Nat} {x y : Nat → Int32} (h : RV C mode W step per ch ca cb o acc hits dir T x) (e : ∀ j, ((603 ≤ j ∧ j < 606) ∨ (1393 ≤ j ∧ j < 1395) ∨ (1398 ≤ j ∧ j < 1404)) → y j = x j) (ha : y 1397 = acc2) (h4 : y 1404 = nI T2.length) (h5 : ∀ i, i < T2.length → y (1405 + i) = nI (gt T2 i)) : RV C mode W step per ch ca cb o acc2 hits dir T2 y := by
  obtain ⟨⟨x4, x5, x6⟩, ⟨x7, x8⟩, ⟨x9, x10, x11, x12⟩, ⟨x13, x14, x15⟩, x16, x17⟩ := h
  refine ⟨⟨?_, ?_, ?_⟩, ⟨?_, ?_⟩, ⟨ha, ?_, ?_, ?_⟩, ⟨?_, ?_, ?_⟩, h4, h5⟩
  · rw [e _ (by omega)]; exact x4
  · rw [e _ (by omega)]; exact x5
  · rw [e _ (by omega)]; exact x6
  · rw [e _ (by omega)]; exact x7
  · rw [e _ (by omega)]; exact x8
  · rw [e _ (by omega)]; exact x10
  · rw [e _ (by omega)]; exact x11
  · rw [e _ (by omega)]; exact x12
  · rw [e _ (by omega)]; exact x13
  · rw [e _ (by omega)]; exact x14
  · rw [e _ (by omega)]; exact x15
/-- an access: the class and the reference answer alike -/
theorem vis {D C : Nat} {s : AS} {S : Ob} {g : Sg} {x : Nat → Int32} {k : Nat} (hC : C ≤ 200) (hC4 : 4 ≤ C) (h0 : g 0 0 = nI D) (h1 : g 0 1 = nI C) (hk : k < 100) (hok : okS D C s) (hS : RS D C s S) (hX : RX D C s x) :
    ∃ v S2 y s2 t, f8_visit (nI k) S = some (v, S2) ∧ f11_accessed (nI k) (va_up g 1 x) = some (v, va_up g 1 y) ∧ okS D C s2 ∧ RS D C s2 S2 ∧ RX D C s2 y ∧ y 1398 = x 1398 + nI t ∧ t ≤ 1 ∧ (v < nI 2 ↔ t = 0) := by
  obtain ⟨A, ⟨w, p, q⟩, Z, ⟨mode, W, step, per, ch, ca, cb⟩, ⟨o, acc, hits, dir⟩, T⟩ := s
  obtain ⟨k1, k2, k3, k4, k5, k7, k8, k9, k14, ⟨k15, k15b⟩, k16⟩ := hok
  obtain ⟨s1, s2, s3, s4, s5, s6, s7⟩ := hS
  obtain ⟨x1, x2, x3, xV⟩ := hX
  obtain ⟨g3, n1, n2⟩ := pt_note (k := k) k15 s4
  obtain ⟨g7, p1, p2⟩ := pk_put k1 k2 s1 hk
  have okA := ok_add (D := D) (A := A) hk k1 k2
  obtain ⟨y1, m1, m2, m3, m4, m5⟩ := pm_note (g := g) (k := k) k15 xV.2.2.2.2.1 xV.2.2.2.2.2
  obtain ⟨y2, c1, c2, c3, c4⟩ := pm_count (g := g) (x := y1) k1 k2 h0 (x1.fr (fun j hj => m2 j (by omega) (by omega) (by omega))) (x2.fr (fun j hj => m2 j (by omega) (by omega) (by omega))) hk
  have hnl := nt_len (k := k) k15
  have hn3 : (ntT T k).length ≤ 300 := by rw [hnl]; split <;> omega
  obtain ⟨S8, hS8⟩ : ∃ z, z = va_up (va_up (va_up S 0 (va_up (S 0) 0 (upd (S 0 0) 3 (acc + 1)))) 4 g3) 2 g7 := ⟨_, rfl⟩
  have hRS : RS D C (addK D A k, (w, p, q), Z, (mode, W, step, per, ch, ca, cb), (o, acc + nI 1, hits, dir), ntT T k) S8 := by
    refine ⟨?_, ?_, ?_, ?_, ?_, ?_, ?_⟩
    · rw [hS8, up_s]; exact p2
    · rw [hS8, up_n (by decide), up_n (by decide), up_n (by decide)]; exact s2
    · rw [hS8, up_n (by decide), up_n (by decide), up_n (by decide)]; exact s3
    · rw [hS8, up_n (by decide), up_s]; exact n2
    · rw [hS8, up_n (by decide), up_n (by decide), up_n (by decide)]; exact s5
    · rw [hS8, up_n (by decide), up_n (by decide), up_s, up_s, ud_s]; rfl
    · rw [hS8, up_n (by decide), up_n (by decide), up_s, up_s, ud_n (by decide)]; exact s7
  have hx10 : y2 1398 = x 1398 := by rw [c4 _ (by omega), m2 _ (by omega) (by omega) (by omega)]
  have hacc : x 1397 = acc := xV.2.2.1.1
  obtain ⟨v, S2, y3, s2', t, z1, z2, z3, z4, z5, z6, z7, z8⟩ := vis_mid (g := g) hC hC4 h0 h1 hk (show okS D C (addK D A k, (w, p, q), Z, (mode, W, step, per, ch, ca, cb), (o, acc + nI 1, hits, dir), ntT T k) from ⟨okA.1, okA.2, k3, k4, k5, k7, k8, k9, k14, ⟨hn3, nt_lt hk k15b⟩, k16⟩) hRS (show RX D C (addK D A k, (w, p, q), Z, (mode, W, step, per, ch, ca, cb), (o, acc + nI 1, hits, dir), ntT T k) y2 from ⟨c2, c3, (x3.fr k3 (fun j h1 h2 => m2 j (by omega) (by omega) (by omega))).fr k3 (fun j h1 h2 => c4 j (by omega)), (xV.no (y := y1) (fun j hj => m2 j (by omega) (by omega) (by omega)) (by rw [m3, hacc]) m4 m5).fr hn3 (fun j hj => c4 j (by omega)) (by rw [c4 _ (by omega), m2 _ (by omega) (by omega) (by omega)]; exact xV.2.2.1.2.2.1)⟩)
  refine ⟨v, S2, y3, s2', t, ?_, ?_, z3, z4, z5, by rw [z6, hx10], z7, z8⟩
  · unfold f8_visit
    rw [st_e, up_n (show (4 : Nat) ≠ 0 by decide), n1, bd_e, st_e, up_n (show (2 : Nat) ≠ 4 by decide), up_n (show (2 : Nat) ≠ 0 by decide), p1, bd_e, st_e, s6, ← hS8]
    exact z1
  · rw [m1]
    unfold accT
    rw [c1, bd_e]
    exact z2
