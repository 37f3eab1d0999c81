def Pinit (m7 : Sg) : Ob := fun i => if i = 1 then gSe 0 else if i = 2 then gSe 1 else if i = 3 then gSe 2 else if i = 4 then gSe 3 else if i = 5 then gSe 4 else if i = 6 then gFo else if i = 7 then m7 else gz
/-- all that there is when both objects have been made -/
def Minit (m3 m4 m7 gm : Sg) (r c w : Int32) : Me := fun t => if t = 0 then Sinit m3 m4 c w else if t = 5 then Pinit m7 else if t = 6 then (fun _ => gMa r c w) else if t = 7 then (fun _ => gm) else (fun _ => gz)
def Sim_init (Rel : Me → Prop) : Prop := ∀ a1 a2 a3 : Int32, ∃ (m3 m4 m7 gm : Sg) (u1 u2 : Int32), kRows3_B gz = some m3 ∧ kSketch_B (gSk (if (1 : Int32) < (if (if (1 : Int32) < (if a1 < (4 : Int32) then a1 else (4 : Int32)) then (if a1 < (4 : Int32) then a1 else (4 : Int32)) else (1 : Int32)) < (4 : Int32) then (if (1 : Int32) < (if a1 < (4 : Int32) then a1 else (4 : Int32)) then (if a1 < (4 : Int32) then a1 else (4 : Int32)) else (1 : Int32)) else (4 : Int32)) then (if (if (1 : Int32) < (if a1 < (4 : Int32) then a1 else (4 : Int32)) then (if a1 < (4 : Int32) then a1 else (4 : Int32)) else (1 : Int32)) < (4 : Int32) then (if (1 : Int32) < (if a1 < (4 : Int32) then a1 else (4 : Int32)) then (if a1 < (4 : Int32) then a1 else (4 : Int32)) else (1 : Int32)) else (4 : Int32)) else (1 : Int32))) = some m4 ∧ kRows4_B gz = some m7 ∧ f11_within a1 1 4 = some u1 ∧ f11_within a2 4 200 = some u2 ∧ kModel_B a3 (gMo u1 u2) = some gm ∧ Rel (Minit m3 m4 m7 gm (if (1 : Int32) < (if a1 < (4 : Int32) then a1 else (4 : Int32)) then (if a1 < (4 : Int32) then a1 else (4 : Int32)) else (1 : Int32)) (if (4 : Int32) < (if a2 < (200 : Int32) then a2 else (200 : Int32)) then (if a2 < (200 : Int32) then a2 else (200 : Int32)) else (4 : Int32)) (if (1 : Int32) < (if a3 < ((if (4 : Int32) < (if a2 < (200 : Int32) then a2 else (200 : Int32)) then (if a2 < (200 : Int32) then a2 else (200 : Int32)) else (4 : Int32)) - (1 : Int32)) then a3 else ((if (4 : Int32) < (if a2 < (200 : Int32) then a2 else (200 : Int32)) then (if a2 < (200 : Int32) then a2 else (200 : Int32)) else (4 : Int32)) - (1 : Int32))) then (if a3 < ((if (4 : Int32) < (if a2 < (200 : Int32) then a2 else (200 : Int32)) then (if a2 < (200 : Int32) then a2 else (200 : Int32)) else (4 : Int32)) - (1 : Int32)) then a3 else ((if (4 : Int32) < (if a2 < (200 : Int32) then a2 else (200 : Int32)) then (if a2 < (200 : Int32) then a2 else (200 : Int32)) else (4 : Int32)) - (1 : Int32))) else (1 : Int32)))
def NSa : List (Nat × Nat × Nat) := [(6, 0, 0), (6, 0, 1), (5, 0, 0), (5, 0, 1), (5, 0, 2), (5, 0, 3), (5, 0, 4), (5, 1, 0), (5, 1, 1), (5, 1, 2), (5, 1, 3), (5, 1, 4), (5, 1, 5), (5, 1, 6), (5, 2, 0), (5, 2, 1), (5, 2, 2), (5, 2, 3), (5, 2, 4), (5, 2, 5), (5, 2, 6), (5, 3, 0), (5, 3, 1), (5, 3, 2), (5, 3, 3), (5, 3, 4), (5, 3, 5), (5, 3, 6), (5, 4, 0), (5, 4, 1), (5, 4, 2), (5, 4, 3), (5, 4, 4), (5, 4, 5), (5, 4, 6), (5, 5, 0), (5, 5, 1), (5, 5, 2), (5, 5, 3), (5, 5, 4), (5, 5, 5), (5, 5, 6), (5, 6, 0), (5, 7, 0), (5, 7, 4), (5, 7, 5), (5, 7, 1), (5, 7, 6), (5, 7, 7), (5, 7, 8), (5, 7, 9), (5, 7, 2), (5, 7, 3), (0, 0, 0), (0, 4, 0), (0, 4, 1), (0, 5, 0), (0, 1, 0), (0, 3, 0), (0, 3, 4), (0, 3, 5), (0, 3, 1), (0, 3, 6), (0, 3, 7), (0, 3, 8), (0, 3, 2), (0, 3, 3), (0, 2, 0), (0, 2, 1), (0, 2, 6), (0, 2, 7), (0, 2, 8), (0, 2, 9), (0, 2, 2), (0, 2, 3), (0, 2, 10), (0, 2, 11), (0, 2, 12), (0, 2, 13), (0, 2, 4), (0, 2, 14), (0, 2, 15), (0, 2, 5)]
def NSb : List (Nat × Nat × Nat) := [(7, 0, 0), (7, 0, 1), (7, 0, 2), (7, 0, 3), (7, 0, 4), (7, 0, 5), (7, 0, 6), (7, 0, 7), (7, 0, 8), (7, 0, 9), (7, 0, 10), (7, 0, 11)]
theorem law_known {s : State} {b : Nat} (hts0 : ∀ w ∈ lw_tbl, w.before #[Value.ref b] s = true) : ∃ (D : va_G) (cy : Nat → ClassId), va_K D vwCl (tyl cy) s := by
  have hts : ∀ w ∈ tk_tb, w.before #[Value.ref b] s = true := fun w h => hts0 w (tk_good w h).1
  obtain ⟨c0, i0, h0⟩ := u_known (C := RX0) (T := TX0) (N := 6) (n := 6) hts inX0 (hts _ t_205)
  obtain ⟨c1, i1, h1⟩ := u_known (C := RX1) (T := TX1) (N := 6) (n := 6) hts inX1 (hts _ t_176)
  obtain ⟨c2, i2, h2⟩ := u_known (C := RX2) (T := TX2) (N := 3) (n := 3) hts inX2 (hts _ t_76)
  obtain ⟨c3, i3, h3⟩ := u_known (C := RX3) (T := TX3) (N := 5) (n := 5) hts inX3 (hts _ t_27)
  obtain ⟨c4, i4, h4⟩ := u_known (C := RX5) (T := TX5) (N := 5) (n := 5) hts inX5 (hts _ t_82)
  obtain ⟨c5, i5, h5⟩ := u_known (C := RX6) (T := TX6) (N := 10) (n := 10) hts inX6 (hts _ t_35)
  obtain ⟨c6, i6, h6⟩ := u_known (C := RX7) (T := TX7) (N := 11) (n := 11) hts inX7 (hts _ t_213)
  obtain ⟨c7, i7, h7⟩ := u_known (C := RX8) (T := TX8) (N := 5) (n := 5) hts inX8 (hts _ t_152)
  obtain ⟨c8, i8, h8⟩ := u_known (C := RX9) (T := TX9) (N := 3) (n := 3) hts inX9 (hts _ t_158)
  obtain ⟨c9, i9, h9⟩ := u_known (C := RX10) (T := TX10) (N := 6) (n := 6) hts inX10 (hts _ t_17)
  obtain ⟨c10, i10, h10⟩ := u_known (C := RX11) (T := TX11) (N := 17) (n := 17) hts inX11 (hts _ t_728)
  obtain ⟨cA, kA, oA, a1, a2, a3⟩ := Cond.arrayClass_spec (hts _ t_74)
  obtain ⟨cB, kB, oB, b1, b2, b3⟩ := Cond.arrayClass_spec (hts _ t_792)
  obtain ⟨oC, cC, kC, d1, -, d2, d3, d4⟩ := Cond.arrayOver_spec (hts0 _ q_33)
  obtain ⟨oD, cD, kD, e1, -, e2, e3, e4⟩ := Cond.arrayOver_spec (hts0 _ q_25)
  obtain ⟨oE, cE, kE, f1, f2, f3, f4⟩ := Cond.arrayOver_specA (hts0 _ q_91)
  refine ⟨(fun k => if k = 0 then c0 else if k = 1 then c1 else if k = 2 then c2 else if k = 3 then c3 else if k = 4 then c4 else if k = 5 then c5 else if k = 6 then c6 else if k = 7 then c7 else if k = 8 then c8 else if k = 9 then c9 else c10, fun k => if k = 0 then i0 else if k = 1 then i1 else if k = 2 then i2 else if k = 3 then i3 else if k = 4 then i4 else if k = 5 then i5 else if k = 6 then i6 else if k = 7 then i7 else if k = 8 then i8 else if k = 9 then i9 else i10), fun k => if k = 0 then cA else if k = 1 then cB else if k = 2 then cC else if k = 3 then cD else cE, fun k q hq => ?_, fun k q hq => ?_⟩
  · match k, hq with
    | 0, hq => cases hq; exact h0
    | 1, hq => cases hq; exact h1
    | 2, hq => cases hq; exact h2
    | 3, hq => cases hq; exact h3
    | 4, hq => cases hq; exact h4
    | 5, hq => cases hq; exact h5
    | 6, hq => cases hq; exact h6
    | 7, hq => cases hq; exact h7
    | 8, hq => cases hq; exact h8
    | 9, hq => cases hq; exact h9
    | 10, hq => cases hq; exact h10
    | k + 11, hq => simp [vwCl] at hq
  · match k, hq with
    | 0, hq => cases hq; exact ⟨fun N z => ⟨(fun k h => by cases h), kA, a2, oA, a3⟩, a1⟩
    | 1, hq => cases hq; exact ⟨fun N z => ⟨(fun k h => by cases h), kB, b2, oB, b3⟩, b1⟩
    | 2, hq => cases hq; exact ⟨fun N z => ⟨(fun k h => by cases h), kC, d2, oC, d3⟩, kC, oC, d2, d3, d1, d4⟩
    | 3, hq => cases hq; exact ⟨fun N z => ⟨(fun k h => by cases h), kD, e2, oD, e3⟩, kD, oD, e2, e3, e1, e4⟩
    | 4, hq => cases hq; exact ⟨fun N z => ⟨(fun k h => by cases h), kE, f2, oE, f3⟩, f4⟩
    | k + 5, hq => simp at hq
set_option maxRecDepth 100000 in
theorem law_ext {s : State} {b : Nat} (hts0 : ∀ w ∈ lw_tbl, w.before #[Value.ref b] s = true) (hgv : (Jvm.Cond.and given_1 narrow_1).before #[Value.ref b] s = true) : Xt (fun q : Nat => s.heap.size ≤ q) s s.heap := by
  have hts : ∀ w ∈ tk_tb, w.before #[Value.ref b] s = true := fun w h => hts0 w (tk_good w h).1
  have hs := flat_of_before _ hgv
  have hA : ∀ a : Nat, a < s.heap.size → ¬ (fun q : Nat => s.heap.size ≤ q) a := fun a h => Nat.not_le.mpr h
  refine ⟨fun w hw => ?_, ⟨hts0 _ q_25, hts0 _ q_33, hts0 _ q_91⟩, ?_, ?_⟩
  · simp only [xtw, List.mem_cons, List.not_mem_nil, or_false] at hw
    rcases hw with rfl | rfl | rfl | rfl | rfl | rfl | rfl | rfl | rfl | rfl
    · exact va_Nw.of rfl (hts0 _ q_39)
    · exact va_Nw.of rfl (hts0 _ q_77)
    · exact va_Nw.of rfl (hts0 _ q_80)
    · exact va_Nw.of rfl (hts0 _ q_159)
    · exact va_Nw.of rfl (hts0 _ q_177)
    · exact va_Nw.of rfl (hts0 _ q_574)
    · exact va_Nw.of rfl (hts0 _ q_589)
    · exact va_Nw.of rfl (hts0 _ q_650)
    · exact va_Nw.of rfl (hts0 _ q_1003)
    · exact va_Nw.of rfl (hts0 _ q_1004)
  · obtain ⟨t, ht, hT⟩ := va_Tof (tm := .static "SketchCache" "LEAST_RULE" "[I") (ty := .int) (N := 6) (f := fun j => .int (lrF j)) (A := fun q : Nat => s.heap.size ≤ q) (by decide) (hs (.arrayOf (.static "SketchCache" "LEAST_RULE" "[I") .int) (by decide +kernel)) (va_eqt (hs (.eq (.length (.static "SketchCache" "LEAST_RULE" "[I")) (.int 6)) (by decide +kernel))) (fun j hj => by
        rcases (show j = 0 ∨ j = 1 ∨ j = 2 ∨ j = 3 ∨ j = 4 ∨ j = 5 by omega) with rfl | rfl | rfl | rfl | rfl | rfl
        · exact va_eqt (hs (.eq (.elem (.static "SketchCache" "LEAST_RULE" "[I") (.int 0)) (.int 0)) (by decide +kernel))
        · exact va_eqt (hs (.eq (.elem (.static "SketchCache" "LEAST_RULE" "[I") (.int 1)) (.int 0)) (by decide +kernel))
        · exact va_eqt (hs (.eq (.elem (.static "SketchCache" "LEAST_RULE" "[I") (.int 2)) (.int 10)) (by decide +kernel))
        · exact va_eqt (hs (.eq (.elem (.static "SketchCache" "LEAST_RULE" "[I") (.int 3)) (.int 0)) (by decide +kernel))
        · exact va_eqt (hs (.eq (.elem (.static "SketchCache" "LEAST_RULE" "[I") (.int 4)) (.int 0)) (by decide +kernel))
        · exact va_eqt (hs (.eq (.elem (.static "SketchCache" "LEAST_RULE" "[I") (.int 5)) (.int 5)) (by decide +kernel))) hA
    exact ⟨t, va_Zref (hts0 _ q_351) (hts _ t_1) ht hA, hT⟩
  · obtain ⟨t, ht, hT⟩ := va_Tof (tm := .static "SketchCache" "MOST_RULE" "[I") (ty := .int) (N := 6) (f := fun j => .int (mrF j)) (A := fun q : Nat => s.heap.size ≤ q) (by decide) (hs (.arrayOf (.static "SketchCache" "MOST_RULE" "[I") .int) (by decide +kernel)) (va_eqt (hs (.eq (.length (.static "SketchCache" "MOST_RULE" "[I")) (.int 6)) (by decide +kernel))) (fun j hj => by
        rcases (show j = 0 ∨ j = 1 ∨ j = 2 ∨ j = 3 ∨ j = 4 ∨ j = 5 by omega) with rfl | rfl | rfl | rfl | rfl | rfl
        · exact va_eqt (hs (.eq (.elem (.static "SketchCache" "MOST_RULE" "[I") (.int 0)) (.int 1)) (by decide +kernel))
        · exact va_eqt (hs (.eq (.elem (.static "SketchCache" "MOST_RULE" "[I") (.int 1)) (.int 1)) (by decide +kernel))
        · exact va_eqt (hs (.eq (.elem (.static "SketchCache" "MOST_RULE" "[I") (.int 2)) (.int 1000)) (by decide +kernel))
        · exact va_eqt (hs (.eq (.elem (.static "SketchCache" "MOST_RULE" "[I") (.int 3)) (.int 2)) (by decide +kernel))
        · exact va_eqt (hs (.eq (.elem (.static "SketchCache" "MOST_RULE" "[I") (.int 4)) (.int 20)) (by decide +kernel))
        · exact va_eqt (hs (.eq (.elem (.static "SketchCache" "MOST_RULE" "[I") (.int 5)) (.int 500)) (by decide +kernel))) hA
    exact ⟨t, va_Zref (hts0 _ q_353) (hts _ t_1) ht hA, hT⟩
section YL
variable {p : Program} {l : Launch} {e : Env} {R : Room} {s : State} {m : MethodId} {args : Array Value} {below : List Frame} {meth : Method} {c : Code} {H : Heap} {locs : List Loc} {cells slots : Nat} {Q : State → Prop}
variable {cc : ByteArray} {pc : Nat} {ls : Array Slot} {rest : List Value} {D : va_G} {ws : va_W}
theorem y_cell {b L nL : Nat} {xs : Nat → Int32} {k : Int32} (hk : ¬ k < 0) (hL : L < 2147483648) (hx : p.tables.exec = Jvm.exec) (hb : c.code = cc) (hml : c.maxLocals = nL) (hts : ∀ w ∈ tk_tb, w.before args s = true) (hown : s.vm.findClass R_law = some m.cls) (hP : va_P D vwCl ws H) (hS : va_S (fun q : Nat => s.heap.size ≤ q) s.heap H locs) (hXs : va_X b L xs s s.heap) (hbl : b < s.heap.size) (hls : ls.size = nL) (hR : 0 + 1 ≤ R.frames ∧ 8 + (2 + 11) + 0 ≤ R.locals) (hroom : 2 * (F0 m pc ls (.int k :: .ref b :: rest)).monitorRoom + (rest.map fun v => v.category).sum ≤ 8) (hdg : decode cc pc = .ok (.invokestatic 9, 3)) (hf : cells ≤ R.cells ∧ slots ≤ R.slots)
    (kk : ∀ (H1 : Heap) (locs1 : List Loc), va_P D vwCl ws H1 → va_S (fun q : Nat => s.heap.size ≤ q) s.heap H1 locs1 → W p l e R s m args below meth c H1 locs1 cells slots Q (F0 m (pc + 3) ls (.int (if Int32.ofNat L ≤ k then 0 else xs k.toNatClampNeg) :: rest))) : W p l e R s m args below meth c H locs cells slots Q (F0 m pc ls (.int k :: .ref b :: rest)) := by
  have hXH : va_X b L xs s H := hXs.kept (hS.2.1 b hbl (Nat.not_le.mpr hbl))
  refine va_calli (va_runS (As := [.ref b, .int k]) (rest := rest) ⟨hx, hb, hml, hown, hts⟩ (cell_ok l b L xs k hk hL H.size) ⟨callB_of 2 hts (x_good t_726) rfl rfl rfl (hts _ t_0) (hts _ t_724) (by decide +kernel) hR, hts _ t_725⟩ ⟨fun a U g mk q => ⟨q.1, q.2.1, q.2.2.1, q.2.2.2.moved (Vm.Alike.refl U.vm)⟩, fun U hU hw => ⟨rfl, by rw [hU], Nat.lt_of_lt_of_le hbl hS.1, by rw [hU]; exact hXH.moved hw.alike⟩⟩ rfl rfl hls rfl hroom hdg hf) hS (fun q hq h => absurd hq (Nat.not_lt.mpr h)) (fun q h => Nat.le_trans hS.1 h) (fun r2 u U H1 locs1 ht hvm hw hB hz1 hk1 hS1 => ?_)
  subst hw
  exact kk H1 locs1 (hP.kept (fun k q hq => hk1 q.1 ((hP k q hq).lt) (Nat.not_le.mpr ((hP k q hq).lt)))) hS1
end YL
