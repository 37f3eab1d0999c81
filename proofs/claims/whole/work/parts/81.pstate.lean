/-! all that is saved and loaded: the sketch; the three parts; sizes; mode, window, step, period, hits, accesses and hits before of the climb; outs, accesses, hits, direction; the trace -/
abbrev AS : Type := AK × (List Nat × List Nat × List Nat) × (Nat → Nat) × (Nat × Nat × Nat × Nat × Nat × Nat × Nat) × (Int32 × Int32 × Int32 × Int32) × List Nat
def okS (D C : Nat) : AS → Prop
  | (A, (w, p, q), Z, (mode, W, step, per, ch, ca, cb), (_, _, _, dir), T) => okK D A ∧ kS A 3 ≤ 1000 ∧ okL 3 (L3 w p q) ∧ (∀ k, k < 100 → 1 ≤ Z k ∧ Z k ≤ 20) ∧ (1 ≤ W ∧ W ≤ C - 1) ∧ mode ≤ 2 ∧ step ≤ 20 ∧ (5 ≤ per ∧ per ≤ 500 ∧ ca < per ∧ ch ≤ ca ∧ cb ≤ 500) ∧ (dir = 1 ∨ dir = -1) ∧ (T.length ≤ 300 ∧ ∀ j, j ∈ T → j < 100) ∧ (uS Z w ≤ W ∧ uS Z (p ++ q) ≤ C - W ∧ uS Z q ≤ (C - W) * 4 / 5)
def RB (step per : Nat) (dir : Int32) (ch ca cb : Nat) (f : Nat → Int32) : Prop := f 0 = nI step ∧ f 1 = nI per ∧ f 2 = dir ∧ f 3 = nI ch ∧ f 4 = nI ca ∧ f 5 = nI cb
/-- the class's state holds it -/
def RS (D C : Nat) : AS → Ob → Prop
  | (A, (w, p, q), Z, (mode, W, step, per, ch, ca, cb), (o, acc, hits, dir), T), S => RK D A (S 2) ∧ RW 3 (L3 w p q) Z (S 3) ∧ RC C mode W o (S 1 0) ∧ RG T (S 4) ∧ RB step per dir ch ca cb (S 5 0) ∧ S 0 0 3 = acc ∧ S 0 0 4 = hits
/-- the reference's numbers beyond sketch and rows -/
def RV (C mode W step per ch ca cb : Nat) (o acc hits dir : Int32) (T : List Nat) (x : Nat → Int32) : Prop := (x 603 = nI mode ∧ x 604 = nI step ∧ x 605 = nI per) ∧ (x 1393 = nI W ∧ x 1394 = nI ((C - W) * 4 / 5)) ∧ (x 1397 = acc ∧ x 1398 = hits ∧ x 1399 = o ∧ x 1400 = dir) ∧ (x 1401 = nI ch ∧ x 1402 = nI ca ∧ x 1403 = nI cb) ∧ x 1404 = nI T.length ∧ ∀ i, i < T.length → x (1405 + i) = nI (gt T i)
def RX (D C : Nat) : AS → (Nat → Int32) → Prop
  | (A, (w, p, q), Z, (mode, W, step, per, ch, ca, cb), (o, acc, hits, dir), T), x => RN A x ∧ RT D A x ∧ RQ (L3 w p q) Z x ∧ RV C mode W step per ch ca cb o acc hits dir T x
/-! the climb -/
def clP (Z e : Nat → Nat) (mode C W : Nat) (w p q : List Nat) : List Nat × List Nat × List Nat × Nat := ovf Z e mode C W (spl Z (C - W) w (setl Z ((C - W) * 4 / 5) p q).1 (setl Z ((C - W) * 4 / 5) p q).2).1 (spl Z (C - W) w (setl Z ((C - W) * 4 / 5) p q).1 (setl Z ((C - W) * 4 / 5) p q).2).2.1 (spl Z (C - W) w (setl Z ((C - W) * 4 / 5) p q).1 (setl Z ((C - W) * 4 / 5) p q).2).2.2
theorem clP_ok {Z e : Nat → Nat} {mode C W : Nat} {w p q : List Nat} (hok : okL 3 (L3 w p q)) : okL 3 (L3 (clP Z e mode C W w p q).1 (clP Z e mode C W w p q).2.1 (clP Z e mode C W w p q).2.2.1) := ovf_ok _ _ _ (spl_ok _ _ _ _ rfl (setl_okL _ _ hok))
theorem clP_sum {Z e : Nat → Nat} {mode C W : Nat} {w p q : List Nat} : uS Z (clP Z e mode C W w p q).1 ≤ W ∧ uS Z ((clP Z e mode C W w p q).2.1 ++ (clP Z e mode C W w p q).2.2.1) ≤ C - W ∧ uS Z (clP Z e mode C W w p q).2.2.1 ≤ (C - W) * 4 / 5 := by
  have h1 := (setl_ok (Z := Z) (lim := (C - W) * 4 / 5) q p).1
  have h2 := spl_sum (Z := Z) (most := C - W) _ w (setl Z ((C - W) * 4 / 5) p q).1 (setl Z ((C - W) * 4 / 5) p q).2 rfl h1
  exact ovf_sum _ _ _ h2.1 h2.2
theorem pc_climb {D : Nat} {A : AK} {Z : Nat → Nat} {S : Ob} {C mode W W2 : Nat} {w p q : List Nat} {c : Nat → Int32} {o v : Int32} {g : Sg} {α : Type} (k : Ob → Option α) (hA : okK D A) (hK : RK D A (S 2)) (hZ : ∀ k, k < 100 → 1 ≤ Z k ∧ Z k ≤ 20) (hC : C ≤ 200) (hC4 : 4 ≤ C) (hW : W2 ≤ C - 1) (hmo : mode ≤ 2) (hc : RC C mode W o c) (hok : okL 3 (L3 w p q)) (hR : RW 3 (L3 w p q) Z g) (hv : (if nI 1 < (if v < nI (C - 1) then v else nI (C - 1)) then (if v < nI (C - 1) then v else nI (C - 1)) else nI 1) = nI W2) : ∃ c2 g2, ((f0_resize v (mkS S c g)).bind (fun S30 => (f0_overflow S30).bind k)) = k (mkS S c2 g2) ∧ RC C mode W2 (o + nI (clP Z (est D A) mode C W2 w p q).2.2.2) c2 ∧ RW 3 (L3 (clP Z (est D A) mode C W2 w p q).1 (clP Z (est D A) mode C W2 w p q).2.1 (clP Z (est D A) mode C W2 w p q).2.2.1) Z g2 := by
  have hc2 : RC C mode W2 o (upd c 4 (nI W2)) := ⟨by rw [ud_n (by decide)]; exact hc.1, by rw [ud_n (by decide)]; exact hc.2.1, by rw [ud_s], by rw [ud_n (by decide)]; exact hc.2.2.2⟩
  obtain ⟨g1, a1, a2, a3⟩ := pc_settle (S := S) hZ hC (by omega) hc2 hok hR
  have e21 : g1 2 1 = nI (setl Z ((C - W2) * 4 / 5) p q).1.length := a2.1 1 (by decide)
  have e22 : g1 2 2 = nI (setl Z ((C - W2) * 4 / 5) p q).2.length := a2.1 2 (by decide)
  have hlen := v_len a3
  have hl2 := hlen
  rw [List.length_append] at hl2
  obtain ⟨g2, b1, b2, b3⟩ := pc_splL (S := S) hZ hC (by omega) hc2 _ w _ _ g1 NF rfl (by show _ < 8000; omega) a3 a2
  rw [List.length_append] at b1
  obtain ⟨g3, d1, d2, d3⟩ := pc_ovf (S := S) hA hK hZ hC (by omega) hmo hc2 b3 b2
  have hsub : nI C - nI 1 = nI (C - 1) := pk_sub (by omega)
  refine ⟨_, g3, ?_, hc2.o, d2⟩
  unfold f0_resize f0_keysInMain
  simp only [mk_1, mk_3, mk_u1, st_e, z_1, z_2, hc.1, hsub, hv]
  rw [a1, bd_e]
  simp (disch := omega) only [mk_3, rd_n, e21, e22, bd_e, nI_add]
  rw [b1, bd_e, d1, bd_e]
  rfl
theorem pm_setW {g : Sg} {x : Nat → Int32} {C W2 : Nat} {v : Int32} (h1 : g 0 1 = nI C) (hC : C ≤ 200) (hC4 : 4 ≤ C) (hW : W2 ≤ C - 1) (hv : f11_within v (nI 1) (nI (C - 1)) = some (nI W2)) : f11_setWindow v (va_up g 1 x) = some (va_up g 1 (upd (upd x 1393 (nI W2)) 1394 (nI ((C - W2) * 4 / 5)))) := by
  unfold f11_setWindow
  simp (disch := omega) only [rd_n, ck_n, wr_n, cl_n, st_e, b2_e, bd_e, ltp, lep, eqp, m1p, m1l, m1e, m1a, nI_add, pk_sub, pk_mul, dvp, nzp, up_s, up_x, up_01, if_true, if_false, Nat.not_lt_zero, Nat.zero_add, z_0, z_1, z_2, z_3, z_4, z_5, z_10, z_11, z_15, z_20, z_30, z_63, z_64, z_99, z_100, z_127, z_128, z_200, z_256, z_300, z_400, z_500, z_600, z_601, z_602, z_603, z_604, z_605, z_606, z_862, z_990, z_1000, z_1090, z_1390, z_1393, z_1394, z_1395, z_1396, z_1397, z_1398, z_1399, z_1400, z_1401, z_1402, z_1403, z_1404, z_1405, z_1705, z_1805, z_7220, h1, hv, ud_s]
theorem RQ.u {L : Nat → List Nat} {Z : Nat → Nat} {x : Nat → Int32} {j : Nat} {v : Int32} (h : RQ L Z x) (hL : okL 3 L) (hj : j < 990 ∨ 1393 ≤ j) : RQ L Z (upd x j v) := h.fr hL (fun i h1 h2 => by rw [ud_n (by omega)])
theorem RN.u {A : AK} {x : Nat → Int32} {j : Nat} {v : Int32} (h : RN A x) (hj : (603 ≤ j ∧ j < 606) ∨ (990 ≤ j ∧ j < 1395) ∨ 1397 ≤ j) : RN A (upd x j v) := h.fr (fun i h1 => by rw [ud_n (by omega)])
/-- what a climb leaves as it was -/
def CF (x y : Nat → Int32) : Prop := ∀ j, (j < 1090 ∨ (1395 ≤ j ∧ j < 1399) ∨ 1404 ≤ j) → y j = x j
theorem pm_climb {D : Nat} {A : AK} {Z : Nat → Nat} {g : Sg} {x : Nat → Int32} {C mode W W2 step ch cb : Nat} {w p q : List Nat} {dir : Int32} (hA : okK D A) (h0 : g 0 0 = nI D) (h1 : g 0 1 = nI C) (hZ : ∀ k, k < 100 → 1 ≤ Z k ∧ Z k ≤ 20) (hC : C ≤ 200) (hC4 : 4 ≤ C) (hW : W2 ≤ C - 1) (hmo : mode ≤ 2) (hok : okL 3 (L3 w p q)) (hR : RQ (L3 w p q) Z x) (hN : RN A x) (hm : x 603 = nI mode) (hst : x 604 = nI step) (hx : x 1393 = nI W) (hch : x 1401 = nI ch) (hcb : x 1403 = nI cb) (hd : x 1400 = dir) (hc1 : ch < 1000) (hc2 : cb < 1000)
    (hv : f11_within (nI W + (if ch < cb then -dir else dir) * nI step) (nI 1) (nI (C - 1)) = some (nI W2)) : ∃ y, f11_climb (va_up g 1 x) = some (va_up g 1 y) ∧ RQ (L3 (clP Z (est D A) mode C W2 w p q).1 (clP Z (est D A) mode C W2 w p q).2.1 (clP Z (est D A) mode C W2 w p q).2.2.1) Z y ∧ CF x y ∧ y 1399 = x 1399 + nI (clP Z (est D A) mode C W2 w p q).2.2.2 ∧ y 1393 = nI W2 ∧ y 1394 = nI ((C - W2) * 4 / 5) ∧ y 1400 = (if ch < cb then -dir else dir) ∧ y 1401 = nI 0 ∧ y 1402 = nI 0 ∧ y 1403 = nI ch := by
  have J36 : ∀ x2 : Nat → Int32, RQ (L3 w p q) Z x2 → RN A x2 → x2 603 = nI mode → x2 604 = nI step → x2 1393 = nI W → x2 1401 = nI ch → x2 1400 = (if ch < cb then -dir else dir) → ∃ y, f11_climb_j36 (va_up g 1 x2) = some (va_up g 1 y) ∧ RQ (L3 (clP Z (est D A) mode C W2 w p q).1 (clP Z (est D A) mode C W2 w p q).2.1 (clP Z (est D A) mode C W2 w p q).2.2.1) Z y ∧ (∀ j, (j < 1090 ∨ (1395 ≤ j ∧ j < 1399) ∨ j = 1400 ∨ 1404 ≤ j) → y j = x2 j) ∧ y 1399 = x2 1399 + nI (clP Z (est D A) mode C W2 w p q).2.2.2 ∧ y 1393 = nI W2 ∧ y 1394 = nI ((C - W2) * 4 / 5) ∧ y 1401 = nI 0 ∧ y 1402 = nI 0 ∧ y 1403 = nI ch := by
    intro x2 r1 r2 r3 r4 r5 r6 r7
    have sw := fun z : Nat → Int32 => pm_setW (g := g) (x := z) h1 hC hC4 hW hv
    obtain ⟨z, hz⟩ : ∃ z, z = upd (upd (upd (upd (upd x2 1403 (nI ch)) 1402 (nI 0)) 1401 (nI 0)) 1393 (nI W2)) 1394 (nI ((C - W2) * 4 / 5)) := ⟨_, rfl⟩
    have zR : RQ (L3 w p q) Z z := by
      rw [hz]
      exact ((((r1.u hok (by omega)).u hok (by omega)).u hok (by omega)).u hok (by omega)).u hok (by omega)
    have zN : RN A z := by
      rw [hz]
      exact ((((r2.u (by omega)).u (by omega)).u (by omega)).u (by omega)).u (by omega)
    have zo : ∀ j, j ≠ 1403 → j ≠ 1402 → j ≠ 1401 → j ≠ 1393 → j ≠ 1394 → z j = x2 j := fun j h1 h2 h3 h4 h5 => by rw [hz, ud_n h5, ud_n h4, ud_n h3, ud_n h2, ud_n h1]
    have z1394 : z 1394 = nI ((C - W2) * 4 / 5) := by rw [hz, ud_s]
    have z1393 : z 1393 = nI W2 := by rw [hz, ud_n (by decide), ud_s]
    obtain ⟨y1, a1, a2, a3⟩ := pm_settleL (g := g) (w := w) hZ (show (C - W2) * 4 / 5 < 1000 by omega) q p z NF hok zR z1394 (by have : q.length ≤ 100 := hok.len (r := 2) (by decide); show _ < 8000; omega)
    have a4 := setl_okL (Z := Z) (lim := (C - W2) * 4 / 5) q p hok
    have hlen := v_len a4
    obtain ⟨y2, b1, b2, b3⟩ := pm_splL (g := g) (W := W2) h1 hZ hC (by omega) _ w _ _ y1 NF rfl (by show _ < 8000; omega) a4 a2 (by rw [a3 _ (by omega)]; exact z1393)
    have b4 := spl_ok (Z := Z) (most := C - W2) _ w _ _ rfl a4
    have ab := a3.t b3
    obtain ⟨y3, d1, d2, d3, d4⟩ := pm_ovf (g := g) (mode := mode) hA h0 h1 hZ hC (show W2 ≤ C by omega) hmo b4 b2 (ab.o.n zN) (by rw [ab _ (by omega), zo 603 (by decide) (by decide) (by decide) (by decide) (by decide)]; exact r3) (by rw [ab _ (by omega)]; exact z1393)
    have abd : OF z y3 := ab.o.t d3
    unfold f11_settle at *
    refine ⟨y3, ?_, d2, fun j hj => ?_, ?_, ?_, ?_, ?_, ?_, ?_⟩
    · unfold f11_climb_j36 f11_settle
      simp (disch := omega) only [rd_n, wr_n, cl_n, z_1401, z_1402, z_1403, z_1393, z_1400, z_604, z_0, up_s, up_x, r6, ud_n, r5, r7, r4, sw, ← hz, bd_e]
      rw [a1, bd_e, b1]
      unfold f11_climb_j150
      rw [d1, bd_e]
    · rw [abd j (by omega)]
      exact zo j (by omega) (by omega) (by omega) (by omega) (by omega)
    · rw [d4, ab _ (by omega), zo 1399 (by decide) (by decide) (by decide) (by decide) (by decide)]
      rfl
    · rw [abd _ (by omega)]; exact z1393
    · rw [abd _ (by omega)]; exact z1394
    · rw [abd _ (by omega), hz, ud_n (by decide), ud_n (by decide), ud_s]
    · rw [abd _ (by omega), hz, ud_n (by decide), ud_n (by decide), ud_n (by decide), ud_s]
    · rw [abd _ (by omega), hz, ud_n (by decide), ud_n (by decide), ud_n (by decide), ud_n (by decide), ud_s]
  unfold f11_climb
  by_cases hlt : ch < cb
  · obtain ⟨y, e1, e2, e3, e4, e5, e6, e7, e8, e9⟩ := J36 (upd x 1400 (-dir)) (hR.u hok (by omega)) (hN.u (by omega)) (by rw [ud_n (by decide)]; exact hm) (by rw [ud_n (by decide)]; exact hst) (by rw [ud_n (by decide)]; exact hx) (by rw [ud_n (by decide)]; exact hch) (by rw [ud_s, if_pos hlt])
    simp (disch := omega) only [rd_n, ck_n, wr_n, cl_n, st_e, b2_e, bd_e, ltp, lep, eqp, m1p, m1l, m1e, m1a, nI_add, pk_sub, pk_mul, dvp, nzp, up_s, up_x, up_01, if_true, if_false, Nat.not_lt_zero, Nat.zero_add, z_0, z_1, z_2, z_3, z_4, z_5, z_10, z_11, z_15, z_20, z_30, z_63, z_64, z_99, z_100, z_127, z_128, z_200, z_256, z_300, z_400, z_500, z_600, z_601, z_602, z_603, z_604, z_605, z_606, z_862, z_990, z_1000, z_1090, z_1390, z_1393, z_1394, z_1395, z_1396, z_1397, z_1398, z_1399, z_1400, z_1401, z_1402, z_1403, z_1404, z_1405, z_1705, z_1805, z_7220, hch, hcb, hd, if_neg (show ¬ cb ≤ ch by omega)]
    refine ⟨y, e1, e2, fun j hj => ?_, ?_, e5, e6, ?_, e7, e8, e9⟩
    · rw [e3 j (by omega), ud_n (by omega)]
    · rw [e4, ud_n (by decide)]
    · rw [e3 _ (by omega), ud_s, if_pos hlt]
  · obtain ⟨y, e1, e2, e3, e4, e5, e6, e7, e8, e9⟩ := J36 x hR hN hm hst hx hch (by rw [hd, if_neg hlt])
    simp (disch := omega) only [rd_n, ck_n, wr_n, cl_n, st_e, b2_e, bd_e, ltp, lep, eqp, m1p, m1l, m1e, m1a, nI_add, pk_sub, pk_mul, dvp, nzp, up_s, up_x, up_01, if_true, if_false, Nat.not_lt_zero, Nat.zero_add, z_0, z_1, z_2, z_3, z_4, z_5, z_10, z_11, z_15, z_20, z_30, z_63, z_64, z_99, z_100, z_127, z_128, z_200, z_256, z_300, z_400, z_500, z_600, z_601, z_602, z_603, z_604, z_605, z_606, z_862, z_990, z_1000, z_1090, z_1390, z_1393, z_1394, z_1395, z_1396, z_1397, z_1398, z_1399, z_1400, z_1401, z_1402, z_1403, z_1404, z_1405, z_1705, z_1805, z_7220, hch, hcb, hd, if_pos (show cb ≤ ch by omega)]
    refine ⟨y, e1, e2, fun j hj => e3 j (by omega), e4, e5, e6, ?_, e7, e8, e9⟩
    rw [e3 _ (by omega), hd, if_neg hlt]
