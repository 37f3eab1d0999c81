def gz : Sg := fun _ _ => 0
def gCl : Sg := fun _ k => if k = 1 then 20 else if k = 2 then 1 else 0
def gCa (c w : Int32) : Sg := fun _ k => if k = 2 then c else if k = 4 then w else 0
def gSk (r : Int32) : Sg := fun o k => if o = 0 then (if k = 5 then r else if k = 6 then 1 else if k = 8 then 200 else 0) else 0
def gSe (v : Int32) : Sg := fun o k => if o = 0 then (if k = 0 then v else if k = 7 then 1 else 0) else 0
def gFo : Sg := fun _ k => if k = 1 then 1 else 0
def gMa (r c w : Int32) : Sg := fun o k => if o = 0 then (if k = 0 then r else if k = 1 then c else if k = 2 then w else 0) else 0
def gMo (r c : Int32) : Sg := fun o k => if o = 0 then (if k = 0 then r else if k = 1 then c else 0) else 0
theorem y_app {a b c d : va_W} (h1 : a = b) (h2 : c = d) : a ++ c = b ++ d := by rw [h1, h2]
set_option maxHeartbeats 4000000 in
theorem kPolicy_ok (l : Launch) (h0 : Nat) : Cn l yX4_init (.code yX4_init cX4_init 1 none :: tk_tb) { frames := 1, cells := 0, slots := 0, locals := 20 } [.ref h0] := by
  intro sz
  refine Met.ofW (cc := cX4_init) (maxL := 1) (ret := none) (by decide) rfl ?_
  intro p e s m args below meth c s₁ B hml hv
  obtain ⟨rfl, hsz⟩ := hv
  have hsz : s.heap.size = sz := hsz
  subst hsz
  have hx := B.exec
  have hb := B.bytes
  have hr := B.returns
  have hts0 := atoms_spec (ws := Cond.code yX4_init cX4_init 1 none :: tk_tb) B.pre
  have hts : ∀ w ∈ tk_tb, w.before ([.ref h0] : List Value).toArray s = true := fun w h => hts0 w (List.mem_cons_of_mem _ h)
  have hown : s.vm.findClass RX4 = some m.cls := findClass_of_methodNamed B.named
  have hlk := B.notSynchronized
  have hl := lv_entry ([.ref h0]) (n := 1) (Nat.le_of_ble_eq_true rfl)
  rw [lg_entry_eq]
  generalize (lg_sl ([.ref h0]) ++ List.replicate (1 - (lg_sl ([.ref h0])).length) Slot.unset).toArray = ls at hl ⊢
  have hl : lv_has ls 1 [(0, .ref h0)] := hl
  refine lv_aload_n hx hb dX4_init_0 rfl (lv_at hl 0 rfl) ?_
  refine W.objInit hx hb hown (hts _ t_42) (hts _ t_22) (hts _ t_23) rfl (by rw [hml]; exact hl.1) rfl dX4_init_1 (Nat.le_of_ble_eq_true rfl) (Nat.le_of_ble_eq_true rfl) ?_
  refine W.eq (g2 := F0 m 4 ls []) rfl ?_
  exact W.vret hx hb hr (fun t ht hW => ⟨⟨(), rfl, trivial, trivial⟩, va_S.rf.F ht⟩) (fun q hq => nomatch hq) dX4_init_4

set_option maxHeartbeats 4000000 in
set_option maxRecDepth 100000 in
theorem kTrace_ok (l : Launch) (D : va_G) (cy : Nat → ClassId) (M : Me) (t : Nat) (ht : t < 5) (h0 : Nat) (hM0 : M t 4 = gz) : Ct l yX9_init (.code yX9_init cX9_init 1 none :: tk_tb) { frames := 1, cells := 1, slots := 300, locals := 20 } D cy [.ref h0] [(h0, .inr (8, [.null, .int 0, .int 0]))] (fun ad => ad t 4 0 = h0) [(t, 4, 0), (t, 4, 1)] M 1 300 := by
  refine Ct.of (by decide) (Nat.le_of_ble_eq_true rfl) ?_
  intro p e s m below meth c ls hE hP hD hS hl
  obtain ⟨hx, hb, hr, hml, hown, hts, hlk, hK, hin, hX⟩ := hE
  have hA : ∀ q : Nat, s.heap.size ≤ q → (va_A [(h0, .inr (8, [.null, .int 0, .int 0]))] s.heap.size) q := fun q h => Or.inr h
  have hl : lv_has ls 1 [(0, .ref h0)] := hl
  refine lv_aload_n hx hb dX9_init_0 rfl (lv_at hl 0 rfl) ?_
  refine W.objInit hx hb hown (hts _ t_162) (hts _ t_22) (hts _ t_23) rfl (by rw [hml]; exact hl.1) rfl dX9_init_1 (Nat.le_of_ble_eq_true rfl) (Nat.le_of_ble_eq_true rfl) ?_
  refine W.eq (g2 := F0 m 4 ls []) rfl ?_
  refine lv_aload_n hx hb dX9_init_4 rfl (lv_at hl 0 rfl) ?_
  refine lv_sipush (v := 300) hx hb dX9_init_5 (by decide) ?_
  refine y_newi (N' := 300) hx hb hts t_74 hK hP hD hS hA (by decide) (by decide) (Nat.le_of_ble_eq_true rfl) (Nat.le_of_ble_eq_true rfl) (Nat.le_of_ble_eq_true rfl) dX9_init_8 (fun q1 H hP hD hS => ?_)
  have hP : va_P D vwCl [(h0, .inr (8, [.null, .int 0, .int 0])), (q1, .inl (cy 0, 300, .inl (fun _ => 0)))] H := hP
  have hD : va_D (va_A [(h0, .inr (8, [.null, .int 0, .int 0]))] s.heap.size) [(h0, .inr (8, [.null, .int 0, .int 0])), (q1, .inl (cy 0, 300, .inl (fun _ => 0)))] := hD
  refine va_putF (D := D) (ci := 8) (v := .ref q1) (ty := (.array .int)) (C := RX9) (T := TX9) (N := 3) hx hb hts inX9 tyX9 tyX9_ok nmX9 hown hK hP hD hS 0 rfl rfl 0 (by decide) (hts _ t_163) (fun _ h9 => h9) rfl hin rfl (by decide +kernel) rfl rfl (Nat.le_of_ble_eq_true rfl) dX9_init_10 (fun H locs hP hD hS => ?_)
  have hP : va_P D vwCl [(h0, .inr (8, [.ref q1, .int 0, .int 0])), (q1, .inl (cy 0, 300, .inl (fun _ => 0)))] H := hP
  have hD : va_D (va_A [(h0, .inr (8, [.null, .int 0, .int 0]))] s.heap.size) [(h0, .inr (8, [.ref q1, .int 0, .int 0])), (q1, .inl (cy 0, 300, .inl (fun _ => 0)))] := hD
  refine lv_aload_n hx hb dX9_init_13 rfl (lv_at hl 0 rfl) ?_
  refine lv_iconst (v := 0) hx hb dX9_init_14 (by decide) ?_
  refine va_put (D := D) (ci := 8) (v := .int (0 : Int32)) (ty := .int) (C := RX9) (T := TX9) (N := 3) hx hb hts inX9 tyX9 tyX9_ok nmX9 hown hK hP hD hS 0 rfl rfl 1 (by decide) (hts _ t_164) (fun _ h9 => h9) rfl (by decide +kernel) rfl rfl (Nat.le_of_ble_eq_true rfl) dX9_init_15 (fun H locs hP hD hS => ?_)
  have hP : va_P D vwCl [(h0, .inr (8, [.ref q1, .int (0 : Int32), .int 0])), (q1, .inl (cy 0, 300, .inl (fun _ => 0)))] H := hP
  have hD : va_D (va_A [(h0, .inr (8, [.null, .int 0, .int 0]))] s.heap.size) [(h0, .inr (8, [.ref q1, .int (0 : Int32), .int 0])), (q1, .inl (cy 0, 300, .inl (fun _ => 0)))] := hD
  refine lv_aload_n hx hb dX9_init_18 rfl (lv_at hl 0 rfl) ?_
  refine lv_iconst (v := 0) hx hb dX9_init_19 (by decide) ?_
  refine va_put (D := D) (ci := 8) (v := .int (0 : Int32)) (ty := .int) (C := RX9) (T := TX9) (N := 3) hx hb hts inX9 tyX9 tyX9_ok nmX9 hown hK hP hD hS 0 rfl rfl 2 (by decide) (hts _ t_165) (fun _ h9 => h9) rfl (by decide +kernel) rfl rfl (Nat.le_of_ble_eq_true rfl) dX9_init_20 (fun H locs hP hD hS => ?_)
  have hP : va_P D vwCl [(h0, .inr (8, [.ref q1, .int (0 : Int32), .int (0 : Int32)])), (q1, .inl (cy 0, 300, .inl (fun _ => 0)))] H := hP
  have hD : va_D (va_A [(h0, .inr (8, [.null, .int 0, .int 0]))] s.heap.size) [(h0, .inr (8, [.ref q1, .int (0 : Int32), .int (0 : Int32)])), (q1, .inl (cy 0, 300, .inl (fun _ => 0)))] := hD
  have ew : ∀ w : va_W, w = wl cy (fun (a b o : Nat) => if o = 1 then q1 else h0) [(t, 4, 0), (t, 4, 1)] M → va_P D vwCl w H → va_D (va_A [(h0, .inr (8, [.null, .int 0, .int 0]))] s.heap.size) w → va_P D vwCl (wl cy (fun (a b o : Nat) => if o = 1 then q1 else h0) [(t, 4, 0), (t, 4, 1)] M) H ∧ va_D (va_A [(h0, .inr (8, [.null, .int 0, .int 0]))] s.heap.size) (wl cy (fun (a b o : Nat) => if o = 1 then q1 else h0) [(t, 4, 0), (t, 4, 1)] M) := fun w e h1 h2 => by subst e; exact ⟨h1, h2⟩
  obtain ⟨hP, hD⟩ := ew _ (by show _ = [((fun (a b o : Nat) => if o = 1 then q1 else h0) t 4 0, ctA cy (fun (a b o : Nat) => if o = 1 then q1 else h0) t 4 0 (M t 4 0)), ((fun (a b o : Nat) => if o = 1 then q1 else h0) t 4 1, ctA cy (fun (a b o : Nat) => if o = 1 then q1 else h0) t 4 1 (M t 4 1))]; simp only [ct_lt ht, hM0]; rfl) hP hD
  exact y_vret (fun (a b o : Nat) => if o = 1 then q1 else h0) rfl hx hb hr hlk hK hP hD hS dX9_init_23
set_option maxHeartbeats 4000000 in
set_option maxRecDepth 100000 in
theorem kClimb_ok (l : Launch) (D : va_G) (cy : Nat → ClassId) (M : Me) (t : Nat) (ht : t < 5) (h0 : Nat) (hM0 : M t 5 = gCl) : Ct l yX1_init (.code yX1_init cX1_init 1 none :: tk_tb) { frames := 1, cells := 0, slots := 0, locals := 20 } D cy [.ref h0] [(h0, .inr (1, [.int 0, .int 0, .int 0, .int 0, .int 0, .int 0]))] (fun ad => ad t 5 0 = h0) [(t, 5, 0)] M 0 0 := by
  refine Ct.of (by decide) (Nat.le_of_ble_eq_true rfl) ?_
  intro p e s m below meth c ls hE hP hD hS hl
  obtain ⟨hx, hb, hr, hml, hown, hts, hlk, hK, hin, hX⟩ := hE
  have hA : ∀ q : Nat, s.heap.size ≤ q → (va_A [(h0, .inr (1, [.int 0, .int 0, .int 0, .int 0, .int 0, .int 0]))] s.heap.size) q := fun q h => Or.inr h
  have hl : lv_has ls 1 [(0, .ref h0)] := hl
  refine lv_aload_n hx hb dX1_init_0 rfl (lv_at hl 0 rfl) ?_
  refine W.objInit hx hb hown (hts _ t_180) (hts _ t_22) (hts _ t_23) rfl (by rw [hml]; exact hl.1) rfl dX1_init_1 (Nat.le_of_ble_eq_true rfl) (Nat.le_of_ble_eq_true rfl) ?_
  refine W.eq (g2 := F0 m 4 ls []) rfl ?_
  refine lv_aload_n hx hb dX1_init_4 rfl (lv_at hl 0 rfl) ?_
  refine lv_iconst (v := 0) hx hb dX1_init_5 (by decide) ?_
  refine va_put (D := D) (ci := 1) (v := .int (0 : Int32)) (ty := .int) (C := RX1) (T := TX1) (N := 6) hx hb hts inX1 tyX1 tyX1_ok nmX1 hown hK hP hD hS 0 rfl rfl 0 (by decide) (hts _ t_181) (fun _ h9 => h9) rfl (by decide +kernel) rfl rfl (Nat.le_of_ble_eq_true rfl) dX1_init_6 (fun H locs hP hD hS => ?_)
  have hP : va_P D vwCl [(h0, .inr (1, [.int (0 : Int32), .int 0, .int 0, .int 0, .int 0, .int 0]))] H := hP
  have hD : va_D (va_A [(h0, .inr (1, [.int 0, .int 0, .int 0, .int 0, .int 0, .int 0]))] s.heap.size) [(h0, .inr (1, [.int (0 : Int32), .int 0, .int 0, .int 0, .int 0, .int 0]))] := hD
  refine lv_aload_n hx hb dX1_init_9 rfl (lv_at hl 0 rfl) ?_
  refine lv_bipush (v := 20) hx hb dX1_init_10 (by decide) ?_
  refine va_put (D := D) (ci := 1) (v := .int (20 : Int32)) (ty := .int) (C := RX1) (T := TX1) (N := 6) hx hb hts inX1 tyX1 tyX1_ok nmX1 hown hK hP hD hS 0 rfl rfl 1 (by decide) (hts _ t_182) (fun _ h9 => h9) rfl (by decide +kernel) rfl rfl (Nat.le_of_ble_eq_true rfl) dX1_init_12 (fun H locs hP hD hS => ?_)
  have hP : va_P D vwCl [(h0, .inr (1, [.int (0 : Int32), .int (20 : Int32), .int 0, .int 0, .int 0, .int 0]))] H := hP
  have hD : va_D (va_A [(h0, .inr (1, [.int 0, .int 0, .int 0, .int 0, .int 0, .int 0]))] s.heap.size) [(h0, .inr (1, [.int (0 : Int32), .int (20 : Int32), .int 0, .int 0, .int 0, .int 0]))] := hD
  refine lv_aload_n hx hb dX1_init_15 rfl (lv_at hl 0 rfl) ?_
  refine lv_iconst (v := 1) hx hb dX1_init_16 (by decide) ?_
  refine va_put (D := D) (ci := 1) (v := .int (1 : Int32)) (ty := .int) (C := RX1) (T := TX1) (N := 6) hx hb hts inX1 tyX1 tyX1_ok nmX1 hown hK hP hD hS 0 rfl rfl 2 (by decide) (hts _ t_183) (fun _ h9 => h9) rfl (by decide +kernel) rfl rfl (Nat.le_of_ble_eq_true rfl) dX1_init_17 (fun H locs hP hD hS => ?_)
  have hP : va_P D vwCl [(h0, .inr (1, [.int (0 : Int32), .int (20 : Int32), .int (1 : Int32), .int 0, .int 0, .int 0]))] H := hP
  have hD : va_D (va_A [(h0, .inr (1, [.int 0, .int 0, .int 0, .int 0, .int 0, .int 0]))] s.heap.size) [(h0, .inr (1, [.int (0 : Int32), .int (20 : Int32), .int (1 : Int32), .int 0, .int 0, .int 0]))] := hD
  refine lv_aload_n hx hb dX1_init_20 rfl (lv_at hl 0 rfl) ?_
  refine lv_iconst (v := 0) hx hb dX1_init_21 (by decide) ?_
  refine va_put (D := D) (ci := 1) (v := .int (0 : Int32)) (ty := .int) (C := RX1) (T := TX1) (N := 6) hx hb hts inX1 tyX1 tyX1_ok nmX1 hown hK hP hD hS 0 rfl rfl 3 (by decide) (hts _ t_185) (fun _ h9 => h9) rfl (by decide +kernel) rfl rfl (Nat.le_of_ble_eq_true rfl) dX1_init_22 (fun H locs hP hD hS => ?_)
  have hP : va_P D vwCl [(h0, .inr (1, [.int (0 : Int32), .int (20 : Int32), .int (1 : Int32), .int (0 : Int32), .int 0, .int 0]))] H := hP
  have hD : va_D (va_A [(h0, .inr (1, [.int 0, .int 0, .int 0, .int 0, .int 0, .int 0]))] s.heap.size) [(h0, .inr (1, [.int (0 : Int32), .int (20 : Int32), .int (1 : Int32), .int (0 : Int32), .int 0, .int 0]))] := hD
  refine lv_aload_n hx hb dX1_init_25 rfl (lv_at hl 0 rfl) ?_
  refine lv_iconst (v := 0) hx hb dX1_init_26 (by decide) ?_
  refine va_put (D := D) (ci := 1) (v := .int (0 : Int32)) (ty := .int) (C := RX1) (T := TX1) (N := 6) hx hb hts inX1 tyX1 tyX1_ok nmX1 hown hK hP hD hS 0 rfl rfl 4 (by decide) (hts _ t_187) (fun _ h9 => h9) rfl (by decide +kernel) rfl rfl (Nat.le_of_ble_eq_true rfl) dX1_init_27 (fun H locs hP hD hS => ?_)
  have hP : va_P D vwCl [(h0, .inr (1, [.int (0 : Int32), .int (20 : Int32), .int (1 : Int32), .int (0 : Int32), .int (0 : Int32), .int 0]))] H := hP
  have hD : va_D (va_A [(h0, .inr (1, [.int 0, .int 0, .int 0, .int 0, .int 0, .int 0]))] s.heap.size) [(h0, .inr (1, [.int (0 : Int32), .int (20 : Int32), .int (1 : Int32), .int (0 : Int32), .int (0 : Int32), .int 0]))] := hD
  refine lv_aload_n hx hb dX1_init_30 rfl (lv_at hl 0 rfl) ?_
  refine lv_iconst (v := 0) hx hb dX1_init_31 (by decide) ?_
  refine va_put (D := D) (ci := 1) (v := .int (0 : Int32)) (ty := .int) (C := RX1) (T := TX1) (N := 6) hx hb hts inX1 tyX1 tyX1_ok nmX1 hown hK hP hD hS 0 rfl rfl 5 (by decide) (hts _ t_189) (fun _ h9 => h9) rfl (by decide +kernel) rfl rfl (Nat.le_of_ble_eq_true rfl) dX1_init_32 (fun H locs hP hD hS => ?_)
  have hP : va_P D vwCl [(h0, .inr (1, [.int (0 : Int32), .int (20 : Int32), .int (1 : Int32), .int (0 : Int32), .int (0 : Int32), .int (0 : Int32)]))] H := hP
  have hD : va_D (va_A [(h0, .inr (1, [.int 0, .int 0, .int 0, .int 0, .int 0, .int 0]))] s.heap.size) [(h0, .inr (1, [.int (0 : Int32), .int (20 : Int32), .int (1 : Int32), .int (0 : Int32), .int (0 : Int32), .int (0 : Int32)]))] := hD
  have ew : ∀ w : va_W, w = wl cy (fun (a b o : Nat) => h0) [(t, 5, 0)] M → va_P D vwCl w H → va_D (va_A [(h0, .inr (1, [.int 0, .int 0, .int 0, .int 0, .int 0, .int 0]))] s.heap.size) w → va_P D vwCl (wl cy (fun (a b o : Nat) => h0) [(t, 5, 0)] M) H ∧ va_D (va_A [(h0, .inr (1, [.int 0, .int 0, .int 0, .int 0, .int 0, .int 0]))] s.heap.size) (wl cy (fun (a b o : Nat) => h0) [(t, 5, 0)] M) := fun w e h1 h2 => by subst e; exact ⟨h1, h2⟩
  obtain ⟨hP, hD⟩ := ew _ (by show _ = [((fun (a b o : Nat) => h0) t 5 0, ctA cy (fun (a b o : Nat) => h0) t 5 0 (M t 5 0))]; simp only [ct_lt ht, hM0]; rfl) hP hD
  exact y_vret (fun (a b o : Nat) => h0) rfl hx hb hr hlk hK hP hD hS dX1_init_35
def kRows3_B (g : Sg) : Option Sg :=
  (st (va_up g 4 (fl 100 (-1 : Int32) (g 4))) (fun g1 => (st (va_up g1 5 (fl 100 (1 : Int32) (g1 5))) (fun g2 => (some g2)))))
set_option maxHeartbeats 4000000 in
set_option maxRecDepth 100000 in
theorem kRows3_ok (l : Launch) (D : va_G) (cy : Nat → ClassId) (M : Me) (t : Nat) (ht : t < 5) (h0 : Nat) (m2 : Sg) (hf : kRows3_B gz = some m2) : Ct l yX5_init (.code yX5_init cX5_init 3 none :: tk_tb) { frames := 1, cells := 8, slots := 509, locals := 23 } D cy [.ref h0, .int (3 : Int32)] [(h0, .inr (4, [.null, .null, .null, .null, .null]))] (fun ad => ad t 3 0 = h0) [(t, 3, 0), (t, 3, 4), (t, 3, 5), (t, 3, 1), (t, 3, 6), (t, 3, 7), (t, 3, 8), (t, 3, 2), (t, 3, 3)] (uI M t 3 m2) 8 509 := by
  refine Ct.of (by decide) (Nat.le_of_ble_eq_true rfl) ?_
  intro p e s m below meth c ls hE hP hD hS hl
  obtain ⟨hx, hb, hr, hml, hown, hts, hlk, hK, hin, hX⟩ := hE
  have hA : ∀ q : Nat, s.heap.size ≤ q → (va_A [(h0, .inr (4, [.null, .null, .null, .null, .null]))] s.heap.size) q := fun q h => Or.inr h
  have hl : lv_has ls 3 [(0, .ref h0), (1, .int (3 : Int32))] := hl
  unfold kRows3_B at hf
  refine lv_aload_n hx hb dX5_init_0 rfl (lv_at hl 0 rfl) ?_
  refine W.objInit hx hb hown (hts _ t_86) (hts _ t_22) (hts _ t_23) rfl (by rw [hml]; exact hl.1) rfl dX5_init_1 (Nat.le_of_ble_eq_true rfl) (Nat.le_of_ble_eq_true rfl) ?_
  refine W.eq (g2 := F0 m 4 ls []) rfl ?_
  refine lv_aload_n hx hb dX5_init_4 rfl (lv_at hl 0 rfl) ?_
  refine lv_bipush (v := 100) hx hb dX5_init_5 (by decide) ?_
  refine y_newi (N' := 100) hx hb hts t_74 hK hP hD hS hA (by decide) (by decide) (Nat.le_of_ble_eq_true rfl) (Nat.le_of_ble_eq_true rfl) (Nat.le_of_ble_eq_true rfl) dX5_init_7 (fun q1 H hP hD hS => ?_)
  have hP : va_P D vwCl [(h0, .inr (4, [.null, .null, .null, .null, .null])), (q1, .inl (cy 0, 100, .inl (fun _ => 0)))] H := hP
  have hD : va_D (va_A [(h0, .inr (4, [.null, .null, .null, .null, .null]))] s.heap.size) [(h0, .inr (4, [.null, .null, .null, .null, .null])), (q1, .inl (cy 0, 100, .inl (fun _ => 0)))] := hD
  refine va_putF (D := D) (ci := 4) (v := .ref q1) (ty := (.array .int)) (C := RX5) (T := TX5) (N := 5) hx hb hts inX5 tyX5 tyX5_ok nmX5 hown hK hP hD hS 0 rfl rfl 3 (by decide) (hts _ t_103) (fun _ h9 => h9) rfl hin rfl (by decide +kernel) rfl rfl (Nat.le_of_ble_eq_true rfl) dX5_init_9 (fun H locs hP hD hS => ?_)
  have hP : va_P D vwCl [(h0, .inr (4, [.null, .null, .null, .ref q1, .null])), (q1, .inl (cy 0, 100, .inl (fun _ => 0)))] H := hP
  have hD : va_D (va_A [(h0, .inr (4, [.null, .null, .null, .null, .null]))] s.heap.size) [(h0, .inr (4, [.null, .null, .null, .ref q1, .null])), (q1, .inl (cy 0, 100, .inl (fun _ => 0)))] := hD
  refine lv_aload_n hx hb dX5_init_12 rfl (lv_at hl 0 rfl) ?_
  refine lv_bipush (v := 100) hx hb dX5_init_13 (by decide) ?_
  refine y_newi (N' := 100) hx hb hts t_74 hK hP hD hS hA (by decide) (by decide) (Nat.le_of_ble_eq_true rfl) (Nat.le_of_ble_eq_true rfl) (Nat.le_of_ble_eq_true rfl) dX5_init_15 (fun q2 H hP hD hS => ?_)
  have hP : va_P D vwCl [(h0, .inr (4, [.null, .null, .null, .ref q1, .null])), (q1, .inl (cy 0, 100, .inl (fun _ => 0))), (q2, .inl (cy 0, 100, .inl (fun _ => 0)))] H := hP
  have hD : va_D (va_A [(h0, .inr (4, [.null, .null, .null, .null, .null]))] s.heap.size) [(h0, .inr (4, [.null, .null, .null, .ref q1, .null])), (q1, .inl (cy 0, 100, .inl (fun _ => 0))), (q2, .inl (cy 0, 100, .inl (fun _ => 0)))] := hD
  refine va_putF (D := D) (ci := 4) (v := .ref q2) (ty := (.array .int)) (C := RX5) (T := TX5) (N := 5) hx hb hts inX5 tyX5 tyX5_ok nmX5 hown hK hP hD hS 0 rfl rfl 4 (by decide) (hts _ t_108) (fun _ h9 => h9) rfl hin rfl (by decide +kernel) rfl rfl (Nat.le_of_ble_eq_true rfl) dX5_init_17 (fun H locs hP hD hS => ?_)
  have hP : va_P D vwCl [(h0, .inr (4, [.null, .null, .null, .ref q1, .ref q2])), (q1, .inl (cy 0, 100, .inl (fun _ => 0))), (q2, .inl (cy 0, 100, .inl (fun _ => 0)))] H := hP
  have hD : va_D (va_A [(h0, .inr (4, [.null, .null, .null, .null, .null]))] s.heap.size) [(h0, .inr (4, [.null, .null, .null, .ref q1, .ref q2])), (q1, .inl (cy 0, 100, .inl (fun _ => 0))), (q2, .inl (cy 0, 100, .inl (fun _ => 0)))] := hD
  refine lv_iconst (v := 1) hx hb dX5_init_20 (by decide) ?_
  refine lv_iload_n hx hb dX5_init_21 rfl (lv_at hl 1 rfl) ?_
  refine va_mmax hx hb (hml.trans hl.1.symm) hown (hts _ t_87) (hts _ t_88) (hts _ t_7) (hts _ t_89) (Nat.le_of_ble_eq_true rfl) (Nat.le_of_ble_eq_true rfl) (Nat.le_of_ble_eq_true rfl) (Nat.le_of_ble_eq_true rfl) dX5_init_22 ?_
  refine lv_istore_n (lv' := [(2, .int (if (1 : Int32) < (3 : Int32) then (3 : Int32) else (1 : Int32))), (0, .ref h0), (1, .int (3 : Int32))]) hx hb dX5_init_25 rfl hl (by decide) rfl (fun ls hl => ?_)
  refine lv_aload_n hx hb dX5_init_26 rfl (lv_at hl 1 rfl) ?_
  refine lv_iload_n hx hb dX5_init_27 rfl (lv_at hl 0 rfl) ?_
  refine lv_bipush (v := 100) hx hb dX5_init_28 (by decide) ?_
  refine y_mna (N' := 3) (K' := 100) hx hb hts hown t_90 hX.2.1.2.2 t_74 hK hP hD hS hA (by decide) (by decide) (by decide) (by decide) (Nat.le_of_ble_eq_true rfl) (Nat.le_of_ble_eq_true rfl) (Nat.le_of_ble_eq_true rfl) (Nat.le_of_ble_eq_true rfl) (Nat.le_of_ble_eq_true rfl) dX5_init_30 (fun q3 r3 H hP hD hS => ?_)
  have hP : va_P D vwCl [(h0, .inr (4, [.null, .null, .null, .ref q1, .ref q2])), (q1, .inl (cy 0, 100, .inl (fun _ => 0))), (q2, .inl (cy 0, 100, .inl (fun _ => 0))), (q3, .inl (cy 4, 3, rA (rO 3 r3))), ((r3 0), .inl (cy 0, 100, .inl (fun _ => 0))), ((r3 1), .inl (cy 0, 100, .inl (fun _ => 0))), ((r3 2), .inl (cy 0, 100, .inl (fun _ => 0)))] H := hP
  have hD : va_D (va_A [(h0, .inr (4, [.null, .null, .null, .null, .null]))] s.heap.size) [(h0, .inr (4, [.null, .null, .null, .ref q1, .ref q2])), (q1, .inl (cy 0, 100, .inl (fun _ => 0))), (q2, .inl (cy 0, 100, .inl (fun _ => 0))), (q3, .inl (cy 4, 3, rA (rO 3 r3))), ((r3 0), .inl (cy 0, 100, .inl (fun _ => 0))), ((r3 1), .inl (cy 0, 100, .inl (fun _ => 0))), ((r3 2), .inl (cy 0, 100, .inl (fun _ => 0)))] := hD
  refine va_putF (D := D) (ci := 4) (v := .ref q3) (ty := (.array (.array .int))) (C := RX5) (T := TX5) (N := 5) hx hb hts inX5 tyX5 tyX5_ok nmX5 hown hK hP hD hS 0 rfl rfl 0 (by decide) (hts _ t_95) (fun _ h9 => h9) rfl hin rfl (by decide +kernel) rfl rfl (Nat.le_of_ble_eq_true rfl) dX5_init_34 (fun H locs hP hD hS => ?_)
  have hP : va_P D vwCl [(h0, .inr (4, [.ref q3, .null, .null, .ref q1, .ref q2])), (q1, .inl (cy 0, 100, .inl (fun _ => 0))), (q2, .inl (cy 0, 100, .inl (fun _ => 0))), (q3, .inl (cy 4, 3, rA (rO 3 r3))), ((r3 0), .inl (cy 0, 100, .inl (fun _ => 0))), ((r3 1), .inl (cy 0, 100, .inl (fun _ => 0))), ((r3 2), .inl (cy 0, 100, .inl (fun _ => 0)))] H := hP
  have hD : va_D (va_A [(h0, .inr (4, [.null, .null, .null, .null, .null]))] s.heap.size) [(h0, .inr (4, [.ref q3, .null, .null, .ref q1, .ref q2])), (q1, .inl (cy 0, 100, .inl (fun _ => 0))), (q2, .inl (cy 0, 100, .inl (fun _ => 0))), (q3, .inl (cy 4, 3, rA (rO 3 r3))), ((r3 0), .inl (cy 0, 100, .inl (fun _ => 0))), ((r3 1), .inl (cy 0, 100, .inl (fun _ => 0))), ((r3 2), .inl (cy 0, 100, .inl (fun _ => 0)))] := hD
  refine lv_aload_n hx hb dX5_init_37 rfl (lv_at hl 1 rfl) ?_
  refine lv_iload_n hx hb dX5_init_38 rfl (lv_at hl 0 rfl) ?_
  refine y_newi (N' := 3) hx hb hts t_74 hK hP hD hS hA (by decide) (by decide) (Nat.le_of_ble_eq_true rfl) (Nat.le_of_ble_eq_true rfl) (Nat.le_of_ble_eq_true rfl) dX5_init_39 (fun q4 H hP hD hS => ?_)
  have hP : va_P D vwCl [(h0, .inr (4, [.ref q3, .null, .null, .ref q1, .ref q2])), (q1, .inl (cy 0, 100, .inl (fun _ => 0))), (q2, .inl (cy 0, 100, .inl (fun _ => 0))), (q3, .inl (cy 4, 3, rA (rO 3 r3))), ((r3 0), .inl (cy 0, 100, .inl (fun _ => 0))), ((r3 1), .inl (cy 0, 100, .inl (fun _ => 0))), ((r3 2), .inl (cy 0, 100, .inl (fun _ => 0))), (q4, .inl (cy 0, 3, .inl (fun _ => 0)))] H := hP
  have hD : va_D (va_A [(h0, .inr (4, [.null, .null, .null, .null, .null]))] s.heap.size) [(h0, .inr (4, [.ref q3, .null, .null, .ref q1, .ref q2])), (q1, .inl (cy 0, 100, .inl (fun _ => 0))), (q2, .inl (cy 0, 100, .inl (fun _ => 0))), (q3, .inl (cy 4, 3, rA (rO 3 r3))), ((r3 0), .inl (cy 0, 100, .inl (fun _ => 0))), ((r3 1), .inl (cy 0, 100, .inl (fun _ => 0))), ((r3 2), .inl (cy 0, 100, .inl (fun _ => 0))), (q4, .inl (cy 0, 3, .inl (fun _ => 0)))] := hD
  refine va_putF (D := D) (ci := 4) (v := .ref q4) (ty := (.array .int)) (C := RX5) (T := TX5) (N := 5) hx hb hts inX5 tyX5 tyX5_ok nmX5 hown hK hP hD hS 0 rfl rfl 1 (by decide) (hts _ t_97) (fun _ h9 => h9) rfl hin rfl (by decide +kernel) rfl rfl (Nat.le_of_ble_eq_true rfl) dX5_init_41 (fun H locs hP hD hS => ?_)
  have hP : va_P D vwCl [(h0, .inr (4, [.ref q3, .ref q4, .null, .ref q1, .ref q2])), (q1, .inl (cy 0, 100, .inl (fun _ => 0))), (q2, .inl (cy 0, 100, .inl (fun _ => 0))), (q3, .inl (cy 4, 3, rA (rO 3 r3))), ((r3 0), .inl (cy 0, 100, .inl (fun _ => 0))), ((r3 1), .inl (cy 0, 100, .inl (fun _ => 0))), ((r3 2), .inl (cy 0, 100, .inl (fun _ => 0))), (q4, .inl (cy 0, 3, .inl (fun _ => 0)))] H := hP
  have hD : va_D (va_A [(h0, .inr (4, [.null, .null, .null, .null, .null]))] s.heap.size) [(h0, .inr (4, [.ref q3, .ref q4, .null, .ref q1, .ref q2])), (q1, .inl (cy 0, 100, .inl (fun _ => 0))), (q2, .inl (cy 0, 100, .inl (fun _ => 0))), (q3, .inl (cy 4, 3, rA (rO 3 r3))), ((r3 0), .inl (cy 0, 100, .inl (fun _ => 0))), ((r3 1), .inl (cy 0, 100, .inl (fun _ => 0))), ((r3 2), .inl (cy 0, 100, .inl (fun _ => 0))), (q4, .inl (cy 0, 3, .inl (fun _ => 0)))] := hD
  refine lv_aload_n hx hb dX5_init_44 rfl (lv_at hl 1 rfl) ?_
  refine lv_iload_n hx hb dX5_init_45 rfl (lv_at hl 0 rfl) ?_
  refine y_newi (N' := 3) hx hb hts t_74 hK hP hD hS hA (by decide) (by decide) (Nat.le_of_ble_eq_true rfl) (Nat.le_of_ble_eq_true rfl) (Nat.le_of_ble_eq_true rfl) dX5_init_46 (fun q5 H hP hD hS => ?_)
  have hP : va_P D vwCl [(h0, .inr (4, [.ref q3, .ref q4, .null, .ref q1, .ref q2])), (q1, .inl (cy 0, 100, .inl (fun _ => 0))), (q2, .inl (cy 0, 100, .inl (fun _ => 0))), (q3, .inl (cy 4, 3, rA (rO 3 r3))), ((r3 0), .inl (cy 0, 100, .inl (fun _ => 0))), ((r3 1), .inl (cy 0, 100, .inl (fun _ => 0))), ((r3 2), .inl (cy 0, 100, .inl (fun _ => 0))), (q4, .inl (cy 0, 3, .inl (fun _ => 0))), (q5, .inl (cy 0, 3, .inl (fun _ => 0)))] H := hP
  have hD : va_D (va_A [(h0, .inr (4, [.null, .null, .null, .null, .null]))] s.heap.size) [(h0, .inr (4, [.ref q3, .ref q4, .null, .ref q1, .ref q2])), (q1, .inl (cy 0, 100, .inl (fun _ => 0))), (q2, .inl (cy 0, 100, .inl (fun _ => 0))), (q3, .inl (cy 4, 3, rA (rO 3 r3))), ((r3 0), .inl (cy 0, 100, .inl (fun _ => 0))), ((r3 1), .inl (cy 0, 100, .inl (fun _ => 0))), ((r3 2), .inl (cy 0, 100, .inl (fun _ => 0))), (q4, .inl (cy 0, 3, .inl (fun _ => 0))), (q5, .inl (cy 0, 3, .inl (fun _ => 0)))] := hD
  refine va_putF (D := D) (ci := 4) (v := .ref q5) (ty := (.array .int)) (C := RX5) (T := TX5) (N := 5) hx hb hts inX5 tyX5 tyX5_ok nmX5 hown hK hP hD hS 0 rfl rfl 2 (by decide) (hts _ t_100) (fun _ h9 => h9) rfl hin rfl (by decide +kernel) rfl rfl (Nat.le_of_ble_eq_true rfl) dX5_init_48 (fun H locs hP hD hS => ?_)
  have hP : va_P D vwCl [(h0, .inr (4, [.ref q3, .ref q4, .ref q5, .ref q1, .ref q2])), (q1, .inl (cy 0, 100, .inl (fun _ => 0))), (q2, .inl (cy 0, 100, .inl (fun _ => 0))), (q3, .inl (cy 4, 3, rA (rO 3 r3))), ((r3 0), .inl (cy 0, 100, .inl (fun _ => 0))), ((r3 1), .inl (cy 0, 100, .inl (fun _ => 0))), ((r3 2), .inl (cy 0, 100, .inl (fun _ => 0))), (q4, .inl (cy 0, 3, .inl (fun _ => 0))), (q5, .inl (cy 0, 3, .inl (fun _ => 0)))] H := hP
  have hD : va_D (va_A [(h0, .inr (4, [.null, .null, .null, .null, .null]))] s.heap.size) [(h0, .inr (4, [.ref q3, .ref q4, .ref q5, .ref q1, .ref q2])), (q1, .inl (cy 0, 100, .inl (fun _ => 0))), (q2, .inl (cy 0, 100, .inl (fun _ => 0))), (q3, .inl (cy 4, 3, rA (rO 3 r3))), ((r3 0), .inl (cy 0, 100, .inl (fun _ => 0))), ((r3 1), .inl (cy 0, 100, .inl (fun _ => 0))), ((r3 2), .inl (cy 0, 100, .inl (fun _ => 0))), (q4, .inl (cy 0, 3, .inl (fun _ => 0))), (q5, .inl (cy 0, 3, .inl (fun _ => 0)))] := hD
  have eq3 : rO 3 r3 = rO 3 (fun r => (fun (a b o : Nat) => if o = 4 then q1 else if o = 5 then q2 else if o = 1 then q3 else if o = 2 then q4 else if o = 3 then q5 else if 6 ≤ o then r3 (o - 6) else h0) t 3 (r + 6)) := rO_cong (fun r hr => by rcases (show r = 0 ∨ r = 1 ∨ r = 2 by omega) with rfl | rfl | rfl <;> rfl)
  rw [eq3] at hP hD
  have ew : ∀ w : va_W, w = wl cy (fun (a b o : Nat) => if o = 4 then q1 else if o = 5 then q2 else if o = 1 then q3 else if o = 2 then q4 else if o = 3 then q5 else if 6 ≤ o then r3 (o - 6) else h0) [(t, 3, 0), (t, 3, 4), (t, 3, 5), (t, 3, 1), (t, 3, 6), (t, 3, 7), (t, 3, 8), (t, 3, 2), (t, 3, 3)] (uI M t 3 gz) → va_P D vwCl w H → va_D (va_A [(h0, .inr (4, [.null, .null, .null, .null, .null]))] s.heap.size) w → va_P D vwCl (wl cy (fun (a b o : Nat) => if o = 4 then q1 else if o = 5 then q2 else if o = 1 then q3 else if o = 2 then q4 else if o = 3 then q5 else if 6 ≤ o then r3 (o - 6) else h0) [(t, 3, 0), (t, 3, 4), (t, 3, 5), (t, 3, 1), (t, 3, 6), (t, 3, 7), (t, 3, 8), (t, 3, 2), (t, 3, 3)] (uI M t 3 gz)) H ∧ va_D (va_A [(h0, .inr (4, [.null, .null, .null, .null, .null]))] s.heap.size) (wl cy (fun (a b o : Nat) => if o = 4 then q1 else if o = 5 then q2 else if o = 1 then q3 else if o = 2 then q4 else if o = 3 then q5 else if 6 ≤ o then r3 (o - 6) else h0) [(t, 3, 0), (t, 3, 4), (t, 3, 5), (t, 3, 1), (t, 3, 6), (t, 3, 7), (t, 3, 8), (t, 3, 2), (t, 3, 3)] (uI M t 3 gz)) := fun w e h1 h2 => by subst e; exact ⟨h1, h2⟩
  obtain ⟨hP, hD⟩ := ew _ (by show _ = [((fun (a b o : Nat) => if o = 4 then q1 else if o = 5 then q2 else if o = 1 then q3 else if o = 2 then q4 else if o = 3 then q5 else if 6 ≤ o then r3 (o - 6) else h0) t 3 0, ctA cy (fun (a b o : Nat) => if o = 4 then q1 else if o = 5 then q2 else if o = 1 then q3 else if o = 2 then q4 else if o = 3 then q5 else if 6 ≤ o then r3 (o - 6) else h0) t 3 0 ((uI M t 3 gz) t 3 0)), ((fun (a b o : Nat) => if o = 4 then q1 else if o = 5 then q2 else if o = 1 then q3 else if o = 2 then q4 else if o = 3 then q5 else if 6 ≤ o then r3 (o - 6) else h0) t 3 4, ctA cy (fun (a b o : Nat) => if o = 4 then q1 else if o = 5 then q2 else if o = 1 then q3 else if o = 2 then q4 else if o = 3 then q5 else if 6 ≤ o then r3 (o - 6) else h0) t 3 4 ((uI M t 3 gz) t 3 4)), ((fun (a b o : Nat) => if o = 4 then q1 else if o = 5 then q2 else if o = 1 then q3 else if o = 2 then q4 else if o = 3 then q5 else if 6 ≤ o then r3 (o - 6) else h0) t 3 5, ctA cy (fun (a b o : Nat) => if o = 4 then q1 else if o = 5 then q2 else if o = 1 then q3 else if o = 2 then q4 else if o = 3 then q5 else if 6 ≤ o then r3 (o - 6) else h0) t 3 5 ((uI M t 3 gz) t 3 5)), ((fun (a b o : Nat) => if o = 4 then q1 else if o = 5 then q2 else if o = 1 then q3 else if o = 2 then q4 else if o = 3 then q5 else if 6 ≤ o then r3 (o - 6) else h0) t 3 1, ctA cy (fun (a b o : Nat) => if o = 4 then q1 else if o = 5 then q2 else if o = 1 then q3 else if o = 2 then q4 else if o = 3 then q5 else if 6 ≤ o then r3 (o - 6) else h0) t 3 1 ((uI M t 3 gz) t 3 1)), ((fun (a b o : Nat) => if o = 4 then q1 else if o = 5 then q2 else if o = 1 then q3 else if o = 2 then q4 else if o = 3 then q5 else if 6 ≤ o then r3 (o - 6) else h0) t 3 6, ctA cy (fun (a b o : Nat) => if o = 4 then q1 else if o = 5 then q2 else if o = 1 then q3 else if o = 2 then q4 else if o = 3 then q5 else if 6 ≤ o then r3 (o - 6) else h0) t 3 6 ((uI M t 3 gz) t 3 6)), ((fun (a b o : Nat) => if o = 4 then q1 else if o = 5 then q2 else if o = 1 then q3 else if o = 2 then q4 else if o = 3 then q5 else if 6 ≤ o then r3 (o - 6) else h0) t 3 7, ctA cy (fun (a b o : Nat) => if o = 4 then q1 else if o = 5 then q2 else if o = 1 then q3 else if o = 2 then q4 else if o = 3 then q5 else if 6 ≤ o then r3 (o - 6) else h0) t 3 7 ((uI M t 3 gz) t 3 7)), ((fun (a b o : Nat) => if o = 4 then q1 else if o = 5 then q2 else if o = 1 then q3 else if o = 2 then q4 else if o = 3 then q5 else if 6 ≤ o then r3 (o - 6) else h0) t 3 8, ctA cy (fun (a b o : Nat) => if o = 4 then q1 else if o = 5 then q2 else if o = 1 then q3 else if o = 2 then q4 else if o = 3 then q5 else if 6 ≤ o then r3 (o - 6) else h0) t 3 8 ((uI M t 3 gz) t 3 8)), ((fun (a b o : Nat) => if o = 4 then q1 else if o = 5 then q2 else if o = 1 then q3 else if o = 2 then q4 else if o = 3 then q5 else if 6 ≤ o then r3 (o - 6) else h0) t 3 2, ctA cy (fun (a b o : Nat) => if o = 4 then q1 else if o = 5 then q2 else if o = 1 then q3 else if o = 2 then q4 else if o = 3 then q5 else if 6 ≤ o then r3 (o - 6) else h0) t 3 2 ((uI M t 3 gz) t 3 2)), ((fun (a b o : Nat) => if o = 4 then q1 else if o = 5 then q2 else if o = 1 then q3 else if o = 2 then q4 else if o = 3 then q5 else if 6 ≤ o then r3 (o - 6) else h0) t 3 3, ctA cy (fun (a b o : Nat) => if o = 4 then q1 else if o = 5 then q2 else if o = 1 then q3 else if o = 2 then q4 else if o = 3 then q5 else if 6 ≤ o then r3 (o - 6) else h0) t 3 3 ((uI M t 3 gz) t 3 3))]; simp only [ct_lt ht, uI_at]; rfl) hP hD
  obtain ⟨ad, hPa, hI, hP, hD⟩ : ∃ ad : Nat → Nat → Nat → Nat, ad t 3 0 = h0 ∧ IsRows cy ad [(t, 3, 0), (t, 3, 4), (t, 3, 5), (t, 3, 1), (t, 3, 6), (t, 3, 7), (t, 3, 8), (t, 3, 2), (t, 3, 3)] t 3 3 ∧ va_P D vwCl (wl cy ad [(t, 3, 0), (t, 3, 4), (t, 3, 5), (t, 3, 1), (t, 3, 6), (t, 3, 7), (t, 3, 8), (t, 3, 2), (t, 3, 3)] (uI M t 3 gz)) H ∧ va_D (va_A [(h0, .inr (4, [.null, .null, .null, .null, .null]))] s.heap.size) (wl cy ad [(t, 3, 0), (t, 3, 4), (t, 3, 5), (t, 3, 1), (t, 3, 6), (t, 3, 7), (t, 3, 8), (t, 3, 2), (t, 3, 3)] (uI M t 3 gz)) := ⟨(fun (a b o : Nat) => if o = 4 then q1 else if o = 5 then q2 else if o = 1 then q3 else if o = 2 then q4 else if o = 3 then q5 else if 6 ≤ o then r3 (o - 6) else h0), rfl, ⟨fun o x => by rw [ct_lt ht]; rfl, fun o ho => by rcases (show o = 0 ∨ o = 1 ∨ o = 2 ∨ o = 3 ∨ o = 4 ∨ o = 5 ∨ o = 6 ∨ o = 7 ∨ o = 8 by omega) with rfl | rfl | rfl | rfl | rfl | rfl | rfl | rfl | rfl <;> simp⟩, hP, hD⟩
  generalize [(t, 3, 0), (t, 3, 4), (t, 3, 5), (t, 3, 1), (t, 3, 6), (t, 3, 7), (t, 3, 8), (t, 3, 2), (t, 3, 3)] = ns at hI hP hD ⊢
  have hW : Wl D cy ad ns (va_A [(h0, .inr (4, [.null, .null, .null, .null, .null]))] s.heap.size) s.heap (uI M t 3 gz) H locs := ⟨hP, hD, hS⟩
  have hl : lv_has ls 3 [(2, .int (if (1 : Int32) < (3 : Int32) then (3 : Int32) else (1 : Int32))), (0, .ref (ad t 3 0)), (1, .int (3 : Int32))] := by rw [hPa]; exact hl
  have hn5 : 3 < 5 := by decide
  generalize gz = g at hf hW
  refine lv_aload_n hx hb dX5_init_51 rfl (lv_at hl 1 rfl) ?_
  refine x_get hx hb hts hown hK hW (hI.2 0 (x_o (by decide))) uI_o (hI.1 0 _) rfl inX5 3 (by decide) t_103 rfl dX5_init_52 ?_
  refine lv_iconst (v := -1) hx hb dX5_init_55 (by decide) ?_
  replace hf := st_some hf
  refine x_fill hx hb hml hts hown hK hW hA (rest := []) (hI.2 4 (x_o (by decide))) uI_o (fun _ => (hI.1 4 _)) (by omega) uC_leaf t_92 (Nat.le_of_ble_eq_true rfl) (Nat.le_of_ble_eq_true rfl) hl.1 (lv_room (Nat.le_of_ble_eq_true rfl)) dX5_init_56 ⟨(Nat.le_of_ble_eq_true rfl), (Nat.le_of_ble_eq_true rfl)⟩ (fun H locs hW => ?_)
  generalize (va_up g 4 (fl 100 (-1 : Int32) (g 4))) = g1 at hf hW
  refine lv_aload_n hx hb dX5_init_59 rfl (lv_at hl 1 rfl) ?_
  refine x_get hx hb hts hown hK hW (hI.2 0 (x_o (by decide))) uI_o (hI.1 0 _) rfl inX5 4 (by decide) t_108 rfl dX5_init_60 ?_
  refine lv_iconst (v := 1) hx hb dX5_init_63 (by decide) ?_
  replace hf := st_some hf
  refine x_fill hx hb hml hts hown hK hW hA (rest := []) (hI.2 5 (x_o (by decide))) uI_o (fun _ => (hI.1 5 _)) (by omega) uC_leaf t_92 (Nat.le_of_ble_eq_true rfl) (Nat.le_of_ble_eq_true rfl) hl.1 (lv_room (Nat.le_of_ble_eq_true rfl)) dX5_init_64 ⟨(Nat.le_of_ble_eq_true rfl), (Nat.le_of_ble_eq_true rfl)⟩ (fun H locs hW => ?_)
  generalize (va_up g1 5 (fl 100 (1 : Int32) (g1 5))) = g2 at hf hW
  exact by have e9 := Option.some.inj hf; subst e9; exact y_vret ad hPa hx hb hr hlk hK hW.1 hW.2.1 hW.2.2 dX5_init_67
def kRows4_B (g : Sg) : Option Sg :=
  (st (va_up g 4 (fl 100 (-1 : Int32) (g 4))) (fun g1 => (st (va_up g1 5 (fl 100 (1 : Int32) (g1 5))) (fun g2 => (some g2)))))
set_option maxHeartbeats 4000000 in
set_option maxRecDepth 100000 in
theorem kRows4_ok (l : Launch) (D : va_G) (cy : Nat → ClassId) (M : Me) (h0 : Nat) (m2 : Sg) (hf : kRows4_B gz = some m2) : Ct l yX5_init (.code yX5_init cX5_init 3 none :: tk_tb) { frames := 1, cells := 9, slots := 612, locals := 23 } D cy [.ref h0, .int (4 : Int32)] [(h0, .inr (4, [.null, .null, .null, .null, .null]))] (fun ad => ad 5 7 0 = h0) [(5, 7, 0), (5, 7, 4), (5, 7, 5), (5, 7, 1), (5, 7, 6), (5, 7, 7), (5, 7, 8), (5, 7, 9), (5, 7, 2), (5, 7, 3)] (uI M 5 7 m2) 9 612 := by
  refine Ct.of (by decide) (Nat.le_of_ble_eq_true rfl) ?_
  intro p e s m below meth c ls hE hP hD hS hl
  obtain ⟨hx, hb, hr, hml, hown, hts, hlk, hK, hin, hX⟩ := hE
  have hA : ∀ q : Nat, s.heap.size ≤ q → (va_A [(h0, .inr (4, [.null, .null, .null, .null, .null]))] s.heap.size) q := fun q h => Or.inr h
  have hl : lv_has ls 3 [(0, .ref h0), (1, .int (4 : Int32))] := hl
  unfold kRows4_B at hf
  refine lv_aload_n hx hb dX5_init_0 rfl (lv_at hl 0 rfl) ?_
  refine W.objInit hx hb hown (hts _ t_86) (hts _ t_22) (hts _ t_23) rfl (by rw [hml]; exact hl.1) rfl dX5_init_1 (Nat.le_of_ble_eq_true rfl) (Nat.le_of_ble_eq_true rfl) ?_
  refine W.eq (g2 := F0 m 4 ls []) rfl ?_
  refine lv_aload_n hx hb dX5_init_4 rfl (lv_at hl 0 rfl) ?_
  refine lv_bipush (v := 100) hx hb dX5_init_5 (by decide) ?_
  refine y_newi (N' := 100) hx hb hts t_74 hK hP hD hS hA (by decide) (by decide) (Nat.le_of_ble_eq_true rfl) (Nat.le_of_ble_eq_true rfl) (Nat.le_of_ble_eq_true rfl) dX5_init_7 (fun q1 H hP hD hS => ?_)
  have hP : va_P D vwCl [(h0, .inr (4, [.null, .null, .null, .null, .null])), (q1, .inl (cy 0, 100, .inl (fun _ => 0)))] H := hP
  have hD : va_D (va_A [(h0, .inr (4, [.null, .null, .null, .null, .null]))] s.heap.size) [(h0, .inr (4, [.null, .null, .null, .null, .null])), (q1, .inl (cy 0, 100, .inl (fun _ => 0)))] := hD
  refine va_putF (D := D) (ci := 4) (v := .ref q1) (ty := (.array .int)) (C := RX5) (T := TX5) (N := 5) hx hb hts inX5 tyX5 tyX5_ok nmX5 hown hK hP hD hS 0 rfl rfl 3 (by decide) (hts _ t_103) (fun _ h9 => h9) rfl hin rfl (by decide +kernel) rfl rfl (Nat.le_of_ble_eq_true rfl) dX5_init_9 (fun H locs hP hD hS => ?_)
  have hP : va_P D vwCl [(h0, .inr (4, [.null, .null, .null, .ref q1, .null])), (q1, .inl (cy 0, 100, .inl (fun _ => 0)))] H := hP
  have hD : va_D (va_A [(h0, .inr (4, [.null, .null, .null, .null, .null]))] s.heap.size) [(h0, .inr (4, [.null, .null, .null, .ref q1, .null])), (q1, .inl (cy 0, 100, .inl (fun _ => 0)))] := hD
  refine lv_aload_n hx hb dX5_init_12 rfl (lv_at hl 0 rfl) ?_
  refine lv_bipush (v := 100) hx hb dX5_init_13 (by decide) ?_
  refine y_newi (N' := 100) hx hb hts t_74 hK hP hD hS hA (by decide) (by decide) (Nat.le_of_ble_eq_true rfl) (Nat.le_of_ble_eq_true rfl) (Nat.le_of_ble_eq_true rfl) dX5_init_15 (fun q2 H hP hD hS => ?_)
  have hP : va_P D vwCl [(h0, .inr (4, [.null, .null, .null, .ref q1, .null])), (q1, .inl (cy 0, 100, .inl (fun _ => 0))), (q2, .inl (cy 0, 100, .inl (fun _ => 0)))] H := hP
  have hD : va_D (va_A [(h0, .inr (4, [.null, .null, .null, .null, .null]))] s.heap.size) [(h0, .inr (4, [.null, .null, .null, .ref q1, .null])), (q1, .inl (cy 0, 100, .inl (fun _ => 0))), (q2, .inl (cy 0, 100, .inl (fun _ => 0)))] := hD
  refine va_putF (D := D) (ci := 4) (v := .ref q2) (ty := (.array .int)) (C := RX5) (T := TX5) (N := 5) hx hb hts inX5 tyX5 tyX5_ok nmX5 hown hK hP hD hS 0 rfl rfl 4 (by decide) (hts _ t_108) (fun _ h9 => h9) rfl hin rfl (by decide +kernel) rfl rfl (Nat.le_of_ble_eq_true rfl) dX5_init_17 (fun H locs hP hD hS => ?_)
  have hP : va_P D vwCl [(h0, .inr (4, [.null, .null, .null, .ref q1, .ref q2])), (q1, .inl (cy 0, 100, .inl (fun _ => 0))), (q2, .inl (cy 0, 100, .inl (fun _ => 0)))] H := hP
  have hD : va_D (va_A [(h0, .inr (4, [.null, .null, .null, .null, .null]))] s.heap.size) [(h0, .inr (4, [.null, .null, .null, .ref q1, .ref q2])), (q1, .inl (cy 0, 100, .inl (fun _ => 0))), (q2, .inl (cy 0, 100, .inl (fun _ => 0)))] := hD
  refine lv_iconst (v := 1) hx hb dX5_init_20 (by decide) ?_
  refine lv_iload_n hx hb dX5_init_21 rfl (lv_at hl 1 rfl) ?_
  refine va_mmax hx hb (hml.trans hl.1.symm) hown (hts _ t_87) (hts _ t_88) (hts _ t_7) (hts _ t_89) (Nat.le_of_ble_eq_true rfl) (Nat.le_of_ble_eq_true rfl) (Nat.le_of_ble_eq_true rfl) (Nat.le_of_ble_eq_true rfl) dX5_init_22 ?_
  refine lv_istore_n (lv' := [(2, .int (if (1 : Int32) < (4 : Int32) then (4 : Int32) else (1 : Int32))), (0, .ref h0), (1, .int (4 : Int32))]) hx hb dX5_init_25 rfl hl (by decide) rfl (fun ls hl => ?_)
  refine lv_aload_n hx hb dX5_init_26 rfl (lv_at hl 1 rfl) ?_
  refine lv_iload_n hx hb dX5_init_27 rfl (lv_at hl 0 rfl) ?_
  refine lv_bipush (v := 100) hx hb dX5_init_28 (by decide) ?_
  refine y_mna (N' := 4) (K' := 100) hx hb hts hown t_90 hX.2.1.2.2 t_74 hK hP hD hS hA (by decide) (by decide) (by decide) (by decide) (Nat.le_of_ble_eq_true rfl) (Nat.le_of_ble_eq_true rfl) (Nat.le_of_ble_eq_true rfl) (Nat.le_of_ble_eq_true rfl) (Nat.le_of_ble_eq_true rfl) dX5_init_30 (fun q3 r3 H hP hD hS => ?_)
  have hP : va_P D vwCl [(h0, .inr (4, [.null, .null, .null, .ref q1, .ref q2])), (q1, .inl (cy 0, 100, .inl (fun _ => 0))), (q2, .inl (cy 0, 100, .inl (fun _ => 0))), (q3, .inl (cy 4, 4, rA (rO 4 r3))), ((r3 0), .inl (cy 0, 100, .inl (fun _ => 0))), ((r3 1), .inl (cy 0, 100, .inl (fun _ => 0))), ((r3 2), .inl (cy 0, 100, .inl (fun _ => 0))), ((r3 3), .inl (cy 0, 100, .inl (fun _ => 0)))] H := hP
  have hD : va_D (va_A [(h0, .inr (4, [.null, .null, .null, .null, .null]))] s.heap.size) [(h0, .inr (4, [.null, .null, .null, .ref q1, .ref q2])), (q1, .inl (cy 0, 100, .inl (fun _ => 0))), (q2, .inl (cy 0, 100, .inl (fun _ => 0))), (q3, .inl (cy 4, 4, rA (rO 4 r3))), ((r3 0), .inl (cy 0, 100, .inl (fun _ => 0))), ((r3 1), .inl (cy 0, 100, .inl (fun _ => 0))), ((r3 2), .inl (cy 0, 100, .inl (fun _ => 0))), ((r3 3), .inl (cy 0, 100, .inl (fun _ => 0)))] := hD
  refine va_putF (D := D) (ci := 4) (v := .ref q3) (ty := (.array (.array .int))) (C := RX5) (T := TX5) (N := 5) hx hb hts inX5 tyX5 tyX5_ok nmX5 hown hK hP hD hS 0 rfl rfl 0 (by decide) (hts _ t_95) (fun _ h9 => h9) rfl hin rfl (by decide +kernel) rfl rfl (Nat.le_of_ble_eq_true rfl) dX5_init_34 (fun H locs hP hD hS => ?_)
  have hP : va_P D vwCl [(h0, .inr (4, [.ref q3, .null, .null, .ref q1, .ref q2])), (q1, .inl (cy 0, 100, .inl (fun _ => 0))), (q2, .inl (cy 0, 100, .inl (fun _ => 0))), (q3, .inl (cy 4, 4, rA (rO 4 r3))), ((r3 0), .inl (cy 0, 100, .inl (fun _ => 0))), ((r3 1), .inl (cy 0, 100, .inl (fun _ => 0))), ((r3 2), .inl (cy 0, 100, .inl (fun _ => 0))), ((r3 3), .inl (cy 0, 100, .inl (fun _ => 0)))] H := hP
  have hD : va_D (va_A [(h0, .inr (4, [.null, .null, .null, .null, .null]))] s.heap.size) [(h0, .inr (4, [.ref q3, .null, .null, .ref q1, .ref q2])), (q1, .inl (cy 0, 100, .inl (fun _ => 0))), (q2, .inl (cy 0, 100, .inl (fun _ => 0))), (q3, .inl (cy 4, 4, rA (rO 4 r3))), ((r3 0), .inl (cy 0, 100, .inl (fun _ => 0))), ((r3 1), .inl (cy 0, 100, .inl (fun _ => 0))), ((r3 2), .inl (cy 0, 100, .inl (fun _ => 0))), ((r3 3), .inl (cy 0, 100, .inl (fun _ => 0)))] := hD
  refine lv_aload_n hx hb dX5_init_37 rfl (lv_at hl 1 rfl) ?_
  refine lv_iload_n hx hb dX5_init_38 rfl (lv_at hl 0 rfl) ?_
  refine y_newi (N' := 4) hx hb hts t_74 hK hP hD hS hA (by decide) (by decide) (Nat.le_of_ble_eq_true rfl) (Nat.le_of_ble_eq_true rfl) (Nat.le_of_ble_eq_true rfl) dX5_init_39 (fun q4 H hP hD hS => ?_)
  have hP : va_P D vwCl [(h0, .inr (4, [.ref q3, .null, .null, .ref q1, .ref q2])), (q1, .inl (cy 0, 100, .inl (fun _ => 0))), (q2, .inl (cy 0, 100, .inl (fun _ => 0))), (q3, .inl (cy 4, 4, rA (rO 4 r3))), ((r3 0), .inl (cy 0, 100, .inl (fun _ => 0))), ((r3 1), .inl (cy 0, 100, .inl (fun _ => 0))), ((r3 2), .inl (cy 0, 100, .inl (fun _ => 0))), ((r3 3), .inl (cy 0, 100, .inl (fun _ => 0))), (q4, .inl (cy 0, 4, .inl (fun _ => 0)))] H := hP
  have hD : va_D (va_A [(h0, .inr (4, [.null, .null, .null, .null, .null]))] s.heap.size) [(h0, .inr (4, [.ref q3, .null, .null, .ref q1, .ref q2])), (q1, .inl (cy 0, 100, .inl (fun _ => 0))), (q2, .inl (cy 0, 100, .inl (fun _ => 0))), (q3, .inl (cy 4, 4, rA (rO 4 r3))), ((r3 0), .inl (cy 0, 100, .inl (fun _ => 0))), ((r3 1), .inl (cy 0, 100, .inl (fun _ => 0))), ((r3 2), .inl (cy 0, 100, .inl (fun _ => 0))), ((r3 3), .inl (cy 0, 100, .inl (fun _ => 0))), (q4, .inl (cy 0, 4, .inl (fun _ => 0)))] := hD
  refine va_putF (D := D) (ci := 4) (v := .ref q4) (ty := (.array .int)) (C := RX5) (T := TX5) (N := 5) hx hb hts inX5 tyX5 tyX5_ok nmX5 hown hK hP hD hS 0 rfl rfl 1 (by decide) (hts _ t_97) (fun _ h9 => h9) rfl hin rfl (by decide +kernel) rfl rfl (Nat.le_of_ble_eq_true rfl) dX5_init_41 (fun H locs hP hD hS => ?_)
  have hP : va_P D vwCl [(h0, .inr (4, [.ref q3, .ref q4, .null, .ref q1, .ref q2])), (q1, .inl (cy 0, 100, .inl (fun _ => 0))), (q2, .inl (cy 0, 100, .inl (fun _ => 0))), (q3, .inl (cy 4, 4, rA (rO 4 r3))), ((r3 0), .inl (cy 0, 100, .inl (fun _ => 0))), ((r3 1), .inl (cy 0, 100, .inl (fun _ => 0))), ((r3 2), .inl (cy 0, 100, .inl (fun _ => 0))), ((r3 3), .inl (cy 0, 100, .inl (fun _ => 0))), (q4, .inl (cy 0, 4, .inl (fun _ => 0)))] H := hP
  have hD : va_D (va_A [(h0, .inr (4, [.null, .null, .null, .null, .null]))] s.heap.size) [(h0, .inr (4, [.ref q3, .ref q4, .null, .ref q1, .ref q2])), (q1, .inl (cy 0, 100, .inl (fun _ => 0))), (q2, .inl (cy 0, 100, .inl (fun _ => 0))), (q3, .inl (cy 4, 4, rA (rO 4 r3))), ((r3 0), .inl (cy 0, 100, .inl (fun _ => 0))), ((r3 1), .inl (cy 0, 100, .inl (fun _ => 0))), ((r3 2), .inl (cy 0, 100, .inl (fun _ => 0))), ((r3 3), .inl (cy 0, 100, .inl (fun _ => 0))), (q4, .inl (cy 0, 4, .inl (fun _ => 0)))] := hD
  refine lv_aload_n hx hb dX5_init_44 rfl (lv_at hl 1 rfl) ?_
  refine lv_iload_n hx hb dX5_init_45 rfl (lv_at hl 0 rfl) ?_
  refine y_newi (N' := 4) hx hb hts t_74 hK hP hD hS hA (by decide) (by decide) (Nat.le_of_ble_eq_true rfl) (Nat.le_of_ble_eq_true rfl) (Nat.le_of_ble_eq_true rfl) dX5_init_46 (fun q5 H hP hD hS => ?_)
  have hP : va_P D vwCl [(h0, .inr (4, [.ref q3, .ref q4, .null, .ref q1, .ref q2])), (q1, .inl (cy 0, 100, .inl (fun _ => 0))), (q2, .inl (cy 0, 100, .inl (fun _ => 0))), (q3, .inl (cy 4, 4, rA (rO 4 r3))), ((r3 0), .inl (cy 0, 100, .inl (fun _ => 0))), ((r3 1), .inl (cy 0, 100, .inl (fun _ => 0))), ((r3 2), .inl (cy 0, 100, .inl (fun _ => 0))), ((r3 3), .inl (cy 0, 100, .inl (fun _ => 0))), (q4, .inl (cy 0, 4, .inl (fun _ => 0))), (q5, .inl (cy 0, 4, .inl (fun _ => 0)))] H := hP
  have hD : va_D (va_A [(h0, .inr (4, [.null, .null, .null, .null, .null]))] s.heap.size) [(h0, .inr (4, [.ref q3, .ref q4, .null, .ref q1, .ref q2])), (q1, .inl (cy 0, 100, .inl (fun _ => 0))), (q2, .inl (cy 0, 100, .inl (fun _ => 0))), (q3, .inl (cy 4, 4, rA (rO 4 r3))), ((r3 0), .inl (cy 0, 100, .inl (fun _ => 0))), ((r3 1), .inl (cy 0, 100, .inl (fun _ => 0))), ((r3 2), .inl (cy 0, 100, .inl (fun _ => 0))), ((r3 3), .inl (cy 0, 100, .inl (fun _ => 0))), (q4, .inl (cy 0, 4, .inl (fun _ => 0))), (q5, .inl (cy 0, 4, .inl (fun _ => 0)))] := hD
  refine va_putF (D := D) (ci := 4) (v := .ref q5) (ty := (.array .int)) (C := RX5) (T := TX5) (N := 5) hx hb hts inX5 tyX5 tyX5_ok nmX5 hown hK hP hD hS 0 rfl rfl 2 (by decide) (hts _ t_100) (fun _ h9 => h9) rfl hin rfl (by decide +kernel) rfl rfl (Nat.le_of_ble_eq_true rfl) dX5_init_48 (fun H locs hP hD hS => ?_)
  have hP : va_P D vwCl [(h0, .inr (4, [.ref q3, .ref q4, .ref q5, .ref q1, .ref q2])), (q1, .inl (cy 0, 100, .inl (fun _ => 0))), (q2, .inl (cy 0, 100, .inl (fun _ => 0))), (q3, .inl (cy 4, 4, rA (rO 4 r3))), ((r3 0), .inl (cy 0, 100, .inl (fun _ => 0))), ((r3 1), .inl (cy 0, 100, .inl (fun _ => 0))), ((r3 2), .inl (cy 0, 100, .inl (fun _ => 0))), ((r3 3), .inl (cy 0, 100, .inl (fun _ => 0))), (q4, .inl (cy 0, 4, .inl (fun _ => 0))), (q5, .inl (cy 0, 4, .inl (fun _ => 0)))] H := hP
  have hD : va_D (va_A [(h0, .inr (4, [.null, .null, .null, .null, .null]))] s.heap.size) [(h0, .inr (4, [.ref q3, .ref q4, .ref q5, .ref q1, .ref q2])), (q1, .inl (cy 0, 100, .inl (fun _ => 0))), (q2, .inl (cy 0, 100, .inl (fun _ => 0))), (q3, .inl (cy 4, 4, rA (rO 4 r3))), ((r3 0), .inl (cy 0, 100, .inl (fun _ => 0))), ((r3 1), .inl (cy 0, 100, .inl (fun _ => 0))), ((r3 2), .inl (cy 0, 100, .inl (fun _ => 0))), ((r3 3), .inl (cy 0, 100, .inl (fun _ => 0))), (q4, .inl (cy 0, 4, .inl (fun _ => 0))), (q5, .inl (cy 0, 4, .inl (fun _ => 0)))] := hD
  have eq3 : rO 4 r3 = rO 4 (fun r => (fun (a b o : Nat) => if o = 4 then q1 else if o = 5 then q2 else if o = 1 then q3 else if o = 2 then q4 else if o = 3 then q5 else if 6 ≤ o then r3 (o - 6) else h0) 5 7 (r + 6)) := rO_cong (fun r hr => by rcases (show r = 0 ∨ r = 1 ∨ r = 2 ∨ r = 3 by omega) with rfl | rfl | rfl | rfl <;> rfl)
  rw [eq3] at hP hD
  have ew : ∀ w : va_W, w = wl cy (fun (a b o : Nat) => if o = 4 then q1 else if o = 5 then q2 else if o = 1 then q3 else if o = 2 then q4 else if o = 3 then q5 else if 6 ≤ o then r3 (o - 6) else h0) [(5, 7, 0), (5, 7, 4), (5, 7, 5), (5, 7, 1), (5, 7, 6), (5, 7, 7), (5, 7, 8), (5, 7, 9), (5, 7, 2), (5, 7, 3)] (uI M 5 7 gz) → va_P D vwCl w H → va_D (va_A [(h0, .inr (4, [.null, .null, .null, .null, .null]))] s.heap.size) w → va_P D vwCl (wl cy (fun (a b o : Nat) => if o = 4 then q1 else if o = 5 then q2 else if o = 1 then q3 else if o = 2 then q4 else if o = 3 then q5 else if 6 ≤ o then r3 (o - 6) else h0) [(5, 7, 0), (5, 7, 4), (5, 7, 5), (5, 7, 1), (5, 7, 6), (5, 7, 7), (5, 7, 8), (5, 7, 9), (5, 7, 2), (5, 7, 3)] (uI M 5 7 gz)) H ∧ va_D (va_A [(h0, .inr (4, [.null, .null, .null, .null, .null]))] s.heap.size) (wl cy (fun (a b o : Nat) => if o = 4 then q1 else if o = 5 then q2 else if o = 1 then q3 else if o = 2 then q4 else if o = 3 then q5 else if 6 ≤ o then r3 (o - 6) else h0) [(5, 7, 0), (5, 7, 4), (5, 7, 5), (5, 7, 1), (5, 7, 6), (5, 7, 7), (5, 7, 8), (5, 7, 9), (5, 7, 2), (5, 7, 3)] (uI M 5 7 gz)) := fun w e h1 h2 => by subst e; exact ⟨h1, h2⟩
  obtain ⟨hP, hD⟩ := ew _ (by show _ = [((fun (a b o : Nat) => if o = 4 then q1 else if o = 5 then q2 else if o = 1 then q3 else if o = 2 then q4 else if o = 3 then q5 else if 6 ≤ o then r3 (o - 6) else h0) 5 7 0, ctA cy (fun (a b o : Nat) => if o = 4 then q1 else if o = 5 then q2 else if o = 1 then q3 else if o = 2 then q4 else if o = 3 then q5 else if 6 ≤ o then r3 (o - 6) else h0) 5 7 0 ((uI M 5 7 gz) 5 7 0)), ((fun (a b o : Nat) => if o = 4 then q1 else if o = 5 then q2 else if o = 1 then q3 else if o = 2 then q4 else if o = 3 then q5 else if 6 ≤ o then r3 (o - 6) else h0) 5 7 4, ctA cy (fun (a b o : Nat) => if o = 4 then q1 else if o = 5 then q2 else if o = 1 then q3 else if o = 2 then q4 else if o = 3 then q5 else if 6 ≤ o then r3 (o - 6) else h0) 5 7 4 ((uI M 5 7 gz) 5 7 4)), ((fun (a b o : Nat) => if o = 4 then q1 else if o = 5 then q2 else if o = 1 then q3 else if o = 2 then q4 else if o = 3 then q5 else if 6 ≤ o then r3 (o - 6) else h0) 5 7 5, ctA cy (fun (a b o : Nat) => if o = 4 then q1 else if o = 5 then q2 else if o = 1 then q3 else if o = 2 then q4 else if o = 3 then q5 else if 6 ≤ o then r3 (o - 6) else h0) 5 7 5 ((uI M 5 7 gz) 5 7 5)), ((fun (a b o : Nat) => if o = 4 then q1 else if o = 5 then q2 else if o = 1 then q3 else if o = 2 then q4 else if o = 3 then q5 else if 6 ≤ o then r3 (o - 6) else h0) 5 7 1, ctA cy (fun (a b o : Nat) => if o = 4 then q1 else if o = 5 then q2 else if o = 1 then q3 else if o = 2 then q4 else if o = 3 then q5 else if 6 ≤ o then r3 (o - 6) else h0) 5 7 1 ((uI M 5 7 gz) 5 7 1)), ((fun (a b o : Nat) => if o = 4 then q1 else if o = 5 then q2 else if o = 1 then q3 else if o = 2 then q4 else if o = 3 then q5 else if 6 ≤ o then r3 (o - 6) else h0) 5 7 6, ctA cy (fun (a b o : Nat) => if o = 4 then q1 else if o = 5 then q2 else if o = 1 then q3 else if o = 2 then q4 else if o = 3 then q5 else if 6 ≤ o then r3 (o - 6) else h0) 5 7 6 ((uI M 5 7 gz) 5 7 6)), ((fun (a b o : Nat) => if o = 4 then q1 else if o = 5 then q2 else if o = 1 then q3 else if o = 2 then q4 else if o = 3 then q5 else if 6 ≤ o then r3 (o - 6) else h0) 5 7 7, ctA cy (fun (a b o : Nat) => if o = 4 then q1 else if o = 5 then q2 else if o = 1 then q3 else if o = 2 then q4 else if o = 3 then q5 else if 6 ≤ o then r3 (o - 6) else h0) 5 7 7 ((uI M 5 7 gz) 5 7 7)), ((fun (a b o : Nat) => if o = 4 then q1 else if o = 5 then q2 else if o = 1 then q3 else if o = 2 then q4 else if o = 3 then q5 else if 6 ≤ o then r3 (o - 6) else h0) 5 7 8, ctA cy (fun (a b o : Nat) => if o = 4 then q1 else if o = 5 then q2 else if o = 1 then q3 else if o = 2 then q4 else if o = 3 then q5 else if 6 ≤ o then r3 (o - 6) else h0) 5 7 8 ((uI M 5 7 gz) 5 7 8)), ((fun (a b o : Nat) => if o = 4 then q1 else if o = 5 then q2 else if o = 1 then q3 else if o = 2 then q4 else if o = 3 then q5 else if 6 ≤ o then r3 (o - 6) else h0) 5 7 9, ctA cy (fun (a b o : Nat) => if o = 4 then q1 else if o = 5 then q2 else if o = 1 then q3 else if o = 2 then q4 else if o = 3 then q5 else if 6 ≤ o then r3 (o - 6) else h0) 5 7 9 ((uI M 5 7 gz) 5 7 9)), ((fun (a b o : Nat) => if o = 4 then q1 else if o = 5 then q2 else if o = 1 then q3 else if o = 2 then q4 else if o = 3 then q5 else if 6 ≤ o then r3 (o - 6) else h0) 5 7 2, ctA cy (fun (a b o : Nat) => if o = 4 then q1 else if o = 5 then q2 else if o = 1 then q3 else if o = 2 then q4 else if o = 3 then q5 else if 6 ≤ o then r3 (o - 6) else h0) 5 7 2 ((uI M 5 7 gz) 5 7 2)), ((fun (a b o : Nat) => if o = 4 then q1 else if o = 5 then q2 else if o = 1 then q3 else if o = 2 then q4 else if o = 3 then q5 else if 6 ≤ o then r3 (o - 6) else h0) 5 7 3, ctA cy (fun (a b o : Nat) => if o = 4 then q1 else if o = 5 then q2 else if o = 1 then q3 else if o = 2 then q4 else if o = 3 then q5 else if 6 ≤ o then r3 (o - 6) else h0) 5 7 3 ((uI M 5 7 gz) 5 7 3))]; simp only [uI_at]; rfl) hP hD
  obtain ⟨ad, hPa, hI, hP, hD⟩ : ∃ ad : Nat → Nat → Nat → Nat, ad 5 7 0 = h0 ∧ IsRows cy ad [(5, 7, 0), (5, 7, 4), (5, 7, 5), (5, 7, 1), (5, 7, 6), (5, 7, 7), (5, 7, 8), (5, 7, 9), (5, 7, 2), (5, 7, 3)] 5 7 4 ∧ va_P D vwCl (wl cy ad [(5, 7, 0), (5, 7, 4), (5, 7, 5), (5, 7, 1), (5, 7, 6), (5, 7, 7), (5, 7, 8), (5, 7, 9), (5, 7, 2), (5, 7, 3)] (uI M 5 7 gz)) H ∧ va_D (va_A [(h0, .inr (4, [.null, .null, .null, .null, .null]))] s.heap.size) (wl cy ad [(5, 7, 0), (5, 7, 4), (5, 7, 5), (5, 7, 1), (5, 7, 6), (5, 7, 7), (5, 7, 8), (5, 7, 9), (5, 7, 2), (5, 7, 3)] (uI M 5 7 gz)) := ⟨(fun (a b o : Nat) => if o = 4 then q1 else if o = 5 then q2 else if o = 1 then q3 else if o = 2 then q4 else if o = 3 then q5 else if 6 ≤ o then r3 (o - 6) else h0), rfl, ⟨fun o x => by rfl, fun o ho => by rcases (show o = 0 ∨ o = 1 ∨ o = 2 ∨ o = 3 ∨ o = 4 ∨ o = 5 ∨ o = 6 ∨ o = 7 ∨ o = 8 ∨ o = 9 by omega) with rfl | rfl | rfl | rfl | rfl | rfl | rfl | rfl | rfl | rfl <;> simp⟩, hP, hD⟩
  generalize [(5, 7, 0), (5, 7, 4), (5, 7, 5), (5, 7, 1), (5, 7, 6), (5, 7, 7), (5, 7, 8), (5, 7, 9), (5, 7, 2), (5, 7, 3)] = ns at hI hP hD ⊢
  have hW : Wl D cy ad ns (va_A [(h0, .inr (4, [.null, .null, .null, .null, .null]))] s.heap.size) s.heap (uI M 5 7 gz) H locs := ⟨hP, hD, hS⟩
  have hl : lv_has ls 3 [(2, .int (if (1 : Int32) < (4 : Int32) then (4 : Int32) else (1 : Int32))), (0, .ref (ad 5 7 0)), (1, .int (4 : Int32))] := by rw [hPa]; exact hl
  have hn5 : 4 < 5 := by decide
  generalize gz = g at hf hW
  refine lv_aload_n hx hb dX5_init_51 rfl (lv_at hl 1 rfl) ?_
  refine x_get hx hb hts hown hK hW (hI.2 0 (x_o (by decide))) uI_o (hI.1 0 _) rfl inX5 3 (by decide) t_103 rfl dX5_init_52 ?_
  refine lv_iconst (v := -1) hx hb dX5_init_55 (by decide) ?_
  replace hf := st_some hf
  refine x_fill hx hb hml hts hown hK hW hA (rest := []) (hI.2 4 (x_o (by decide))) uI_o (fun _ => (hI.1 4 _)) (by omega) uC_leaf t_92 (Nat.le_of_ble_eq_true rfl) (Nat.le_of_ble_eq_true rfl) hl.1 (lv_room (Nat.le_of_ble_eq_true rfl)) dX5_init_56 ⟨(Nat.le_of_ble_eq_true rfl), (Nat.le_of_ble_eq_true rfl)⟩ (fun H locs hW => ?_)
  generalize (va_up g 4 (fl 100 (-1 : Int32) (g 4))) = g1 at hf hW
  refine lv_aload_n hx hb dX5_init_59 rfl (lv_at hl 1 rfl) ?_
  refine x_get hx hb hts hown hK hW (hI.2 0 (x_o (by decide))) uI_o (hI.1 0 _) rfl inX5 4 (by decide) t_108 rfl dX5_init_60 ?_
  refine lv_iconst (v := 1) hx hb dX5_init_63 (by decide) ?_
  replace hf := st_some hf
  refine x_fill hx hb hml hts hown hK hW hA (rest := []) (hI.2 5 (x_o (by decide))) uI_o (fun _ => (hI.1 5 _)) (by omega) uC_leaf t_92 (Nat.le_of_ble_eq_true rfl) (Nat.le_of_ble_eq_true rfl) hl.1 (lv_room (Nat.le_of_ble_eq_true rfl)) dX5_init_64 ⟨(Nat.le_of_ble_eq_true rfl), (Nat.le_of_ble_eq_true rfl)⟩ (fun H locs hW => ?_)
  generalize (va_up g1 5 (fl 100 (1 : Int32) (g1 5))) = g2 at hf hW
  exact by have e9 := Option.some.inj hf; subst e9; exact y_vret ad hPa hx hb hr hlk hK hW.1 hW.2.1 hW.2.2 dX5_init_67
