theorem rel_fresh : ∀ (r : Nat), r < 4 → ∀ n ∈ NSa ++ NSb, n.1 ≠ r + 1 := by
  have h : ∀ n ∈ NSa ++ NSb, n.1 = 0 ∨ n.1 = 5 ∨ n.1 = 6 ∨ n.1 = 7 := by decide
  intro r hr n hn
  have := h n hn
  omega
theorem rel_six : ∀ i o, (6, i, o) ∈ NSa ++ NSb → i = 0 ∧ o < 2 := by
  have h : ∀ n ∈ NSa ++ NSb, n.1 = 6 → n.2.1 = 0 ∧ n.2.2 < 2 := by decide
  exact fun i o hn => h (6, i, o) hn rfl
theorem in_ab0 : ((List.range 6).all (fun i => (List.range (szSt i)).all (fun o => decide ((0, i, o) ∈ NSa ++ NSb))) && (List.range 8).all (fun i => (List.range (szPl i)).all (fun o => decide ((5, i, o) ∈ NSa ++ NSb))) && (List.range 2).all (fun o => decide ((6, 0, o) ∈ NSa ++ NSb)) && (List.range 12).all (fun o => decide ((7, 0, o) ∈ NSa ++ NSb))) = true := by decide +kernel
theorem in_ab : (∀ i, i < 6 → ∀ o, o < szSt i → (0, i, o) ∈ NSa ++ NSb) ∧ (∀ i, i < 8 → ∀ o, o < szPl i → (5, i, o) ∈ NSa ++ NSb) ∧ (∀ o, o < 2 → (6, 0, o) ∈ NSa ++ NSb) ∧ (∀ o, o < 12 → (7, 0, o) ∈ NSa ++ NSb) := by
  have h := in_ab0
  simp only [Bool.and_eq_true, List.all_eq_true, List.mem_range, decide_eq_true_eq] at h
  exact ⟨fun i hi o ho => h.1.1.1 i hi o ho, fun i hi o ho => h.1.1.2 i hi o ho, fun o ho => h.1.2 o ho, fun o ho => h.2 o ho⟩
theorem szPl_lt {i o : Nat} (h : o < szPl i) : i < 8 := by
  rcases Nat.lt_or_ge i 8 with h6 | h6
  · exact h6
  · obtain ⟨k, rfl⟩ : ∃ k, i = k + 8 := ⟨i - 8, by omega⟩
    exact absurd h (Nat.not_lt_zero o)
theorem wl_7 {cy : Nat → ClassId} {ad1 ad2 : Nat → Nat → Nat → Nat} {M : Me} (h : ∀ a, a ≠ 7 → ad1 a = ad2 a) : wl cy ad1 NSa M = wl cy ad2 NSa M := by
  have hn : ∀ n ∈ NSa, n.1 ≠ 7 := by decide
  have h6 : ∀ n ∈ NSa, n.1 = 6 → n.2.1 = 0 := by decide
  unfold wl
  apply List.map_congr_left
  intro n hn1
  have h7 := hn n hn1
  have hsix := h6 n hn1
  obtain ⟨a, i, o⟩ := n
  have h7 : a ≠ 7 := h7
  show (ad1 a i o, ctA cy ad1 a i o (M a i o)) = (ad2 a i o, ctA cy ad2 a i o (M a i o))
  rw [h a h7]
  have e : ctA cy ad1 a i o (M a i o) = ctA cy ad2 a i o (M a i o) := by
    unfold ctA
    split
    · exact ctSt_cong (h a h7) _ _ _
    · split
      · exact ctPl_cong (h a h7) _ _ _
      · split
        · rename_i h6a
          subst h6a
          have hi : i = 0 := hsix rfl
          subst hi
          cases o with
          | zero =>
            show (Sum.inr (9, [.int (M 6 0 0 0), .int (M 6 0 0 1), .int (M 6 0 0 2), .ref (ad1 0 0 0), .ref (ad1 6 0 1), .ref (ad1 5 0 0)]) : va_E) = .inr (9, [.int (M 6 0 0 0), .int (M 6 0 0 1), .int (M 6 0 0 2), .ref (ad2 0 0 0), .ref (ad2 6 0 1), .ref (ad2 5 0 0)])
            rw [h 0 (by decide), h 6 (by decide), h 5 (by decide)]
          | succ o =>
            show (Sum.inl (cy 3, 4, rA (fun r => if r < 4 then (if M 6 0 (o + 1) r = 1 then some (ad1 (r + 1) 0 0) else none) else none)) : va_E) = .inl (cy 3, 4, rA (fun r => if r < 4 then (if M 6 0 (o + 1) r = 1 then some (ad2 (r + 1) 0 0) else none) else none))
            have e : (fun r => if r < 4 then (if M 6 0 (o + 1) r = 1 then some (ad1 (r + 1) 0 0) else none) else none) = (fun r => if r < 4 then (if M 6 0 (o + 1) r = 1 then some (ad2 (r + 1) 0 0) else none) else none) := by
              funext r
              by_cases hr : r < 4
              · rw [h (r + 1) (by omega)]
              · simp [hr]
            rw [e]
        · exact ctModel_cong (h a h7) _ _ _
  rw [e]
theorem wl_b {cy : Nat → ClassId} {ad1 ad2 : Nat → Nat → Nat → Nat} {M : Me} (h : ad1 7 = ad2 7) : wl cy ad1 NSb M = wl cy ad2 NSb M := by
  have hn : ∀ n ∈ NSb, n.1 = 7 := by decide
  unfold wl
  apply List.map_congr_left
  intro n hn1
  have h7 := hn n hn1
  obtain ⟨a, i, o⟩ := n
  have h7 : a = 7 := h7
  subst h7
  show (ad1 7 i o, ctA cy ad1 7 i o (M 7 i o)) = (ad2 7 i o, ctA cy ad2 7 i o (M 7 i o))
  have e : ctA cy ad1 7 i o (M 7 i o) = ctA cy ad2 7 i o (M 7 i o) := ctModel_cong h _ _ _
  rw [e, h]
set_option maxHeartbeats 4000000 in
set_option maxRecDepth 100000 in
theorem start_open {p : Program} {e : Env} {s : State} {m : MethodId} {below : List Frame} {meth : Method} {c : Code} (l : Launch) {b L : Nat} {xs : Nat → Int32} (Rel : Me → Prop) (hs_init : Sim_init Rel) (hs_place : Sim_place Rel) (hs_door : Sim_door Rel) (hs_rule : Sim_rule Rel) (hs_size : Sim_size Rel) (hs_access : Sim_access Rel) (hs_run : Sim_run Rel) (hs_add : Sim_add Rel) (hs_estimate : Sim_estimate Rel) (hs_counter : Sim_counter Rel) (hs_bit : Sim_bit Rel) (hs_remove : Sim_remove Rel) (hs_where : Sim_where Rel) (hs_key : Sim_key Rel) (hs_about : Sim_about Rel) (hs_trace : Sim_trace Rel) (hs_replay : Sim_replay Rel) (hs_kept : Sim_kept Rel) (hs_save : Sim_save Rel) (hs_load : Sim_load Rel) (hs_sound : Sim_sound Rel) (hL : L ≤ 2563) (C0 : lw_At p s m meth c b L xs) : W p l e room_1 s m #[Value.ref b] below meth c s.heap [] 0 0 (lw_Z below #[Value.ref b] s) (entryFrame m ([Value.ref b] : List Value).toArray 4) := by
  obtain ⟨hx, hb, hr, hml, hown, hts0, hXs, hbl, hlocks, hgv⟩ := id C0
  have hts : ∀ w ∈ tk_tb, w.before #[Value.ref b] s = true := fun w h => hts0 w (tk_good w h).1
  have hA : ∀ q : Nat, s.heap.size ≤ q → (fun q : Nat => s.heap.size ≤ q) q := fun _ h => h
  obtain ⟨D, cy, hK⟩ := law_known hts0
  have hX := law_ext hts0 hgv
  have hL2 : L < 2147483648 := by omega
  have hS : va_S (fun q : Nat => s.heap.size ≤ q) s.heap s.heap [] := va_S.rf
  have hP : va_P D vwCl [] s.heap := fun k q h => by simp at h
  have hD : va_D (fun q : Nat => s.heap.size ≤ q) [] := ⟨fun i j p q h => by simp at h, fun k q h => by simp at h⟩
  have hl := lv_entry ([.ref b]) (n := 4) (Nat.le_of_ble_eq_true rfl)
  rw [lg_entry_eq]
  generalize (lg_sl ([.ref b]) ++ List.replicate (4 - (lg_sl ([.ref b])).length) Slot.unset).toArray = ls at hl ⊢
  have hl : lv_has ls 4 [(0, .ref b)] := hl
  obtain ⟨a1, ha1⟩ : ∃ z, (if Int32.ofNat L ≤ (0 : Int32) then 0 else xs (0 : Int32).toNatClampNeg) = z := ⟨_, rfl⟩
  obtain ⟨a2, ha2⟩ : ∃ z, (if Int32.ofNat L ≤ (1 : Int32) then 0 else xs (1 : Int32).toNatClampNeg) = z := ⟨_, rfl⟩
  obtain ⟨a3, ha3⟩ : ∃ z, (if Int32.ofNat L ≤ (2 : Int32) then 0 else xs (2 : Int32).toNatClampNeg) = z := ⟨_, rfl⟩
  obtain ⟨m3, m4, m7, gm, u1, u2, k3, k4, k7, ku1, ku2, km, hRel⟩ := hs_init a1 a2 a3
  obtain ⟨M, hM⟩ : ∃ z, z = Minit m3 m4 m7 gm (if (1 : Int32) < (if a1 < (4 : Int32) then a1 else (4 : Int32)) then (if a1 < (4 : Int32) then a1 else (4 : Int32)) else (1 : Int32)) (if (4 : Int32) < (if a2 < (200 : Int32) then a2 else (200 : Int32)) then (if a2 < (200 : Int32) then a2 else (200 : Int32)) else (4 : Int32)) (if (1 : Int32) < (if a3 < ((if (4 : Int32) < (if a2 < (200 : Int32) then a2 else (200 : Int32)) then (if a2 < (200 : Int32) then a2 else (200 : Int32)) else (4 : Int32)) - (1 : Int32)) then a3 else ((if (4 : Int32) < (if a2 < (200 : Int32) then a2 else (200 : Int32)) then (if a2 < (200 : Int32) then a2 else (200 : Int32)) else (4 : Int32)) - (1 : Int32))) then (if a3 < ((if (4 : Int32) < (if a2 < (200 : Int32) then a2 else (200 : Int32)) then (if a2 < (200 : Int32) then a2 else (200 : Int32)) else (4 : Int32)) - (1 : Int32)) then a3 else ((if (4 : Int32) < (if a2 < (200 : Int32) then a2 else (200 : Int32)) then (if a2 < (200 : Int32) then a2 else (200 : Int32)) else (4 : Int32)) - (1 : Int32))) else (1 : Int32)) := ⟨_, rfl⟩
  rw [← hM] at hRel
  refine va_new (ci := 9) (fs := [.int 0, .int 0, .int 0, .null, .null, .null]) (C := RX10) (T := TX10) (N := 6) hx hb hts inX10 tyX10 tyX10_ok hown (hts _ t_16) (hts _ t_17) (hts _ t_1) hK hP hD hS hA rfl (fun j hj => by rcases (show j = 0 ∨ j = 1 ∨ j = 2 ∨ j = 3 ∨ j = 4 ∨ j = 5 by omega) with rfl | rfl | rfl | rfl | rfl | rfl <;> rfl) (Nat.le_of_ble_eq_true rfl) (Nat.le_of_ble_eq_true rfl) dL_law_0 (fun q1 H hP hD hS => ?_)
  refine lv_dup hx hb dL_law_3 rfl ?_
  refine lv_aload_n hx hb dL_law_4 rfl (lv_at hl 0 rfl) ?_
  refine lv_iconst (v := 0) hx hb dL_law_5 (by decide) ?_
  refine y_cell (by decide) hL2 hx hb hml hts hown hP hS hXs hbl hl.1 ⟨Nat.le_of_ble_eq_true rfl, Nat.le_of_ble_eq_true rfl⟩ (lv_room (Nat.le_of_ble_eq_true rfl)) dL_law_6 ⟨Nat.le_of_ble_eq_true rfl, Nat.le_of_ble_eq_true rfl⟩ (fun H locs hP hS => ?_)
  rw [ha1]
  refine lv_aload_n hx hb dL_law_9 rfl (lv_at hl 0 rfl) ?_
  refine lv_iconst (v := 1) hx hb dL_law_10 (by decide) ?_
  refine y_cell (by decide) hL2 hx hb hml hts hown hP hS hXs hbl hl.1 ⟨Nat.le_of_ble_eq_true rfl, Nat.le_of_ble_eq_true rfl⟩ (lv_room (Nat.le_of_ble_eq_true rfl)) dL_law_11 ⟨Nat.le_of_ble_eq_true rfl, Nat.le_of_ble_eq_true rfl⟩ (fun H locs hP hS => ?_)
  rw [ha2]
  refine lv_aload_n hx hb dL_law_14 rfl (lv_at hl 0 rfl) ?_
  refine lv_iconst (v := 2) hx hb dL_law_15 (by decide) ?_
  refine y_cell (by decide) hL2 hx hb hml hts hown hP hS hXs hbl hl.1 ⟨Nat.le_of_ble_eq_true rfl, Nat.le_of_ble_eq_true rfl⟩ (lv_room (Nat.le_of_ble_eq_true rfl)) dL_law_16 ⟨Nat.le_of_ble_eq_true rfl, Nat.le_of_ble_eq_true rfl⟩ (fun H locs hP hS => ?_)
  rw [ha3]
  refine y_ci (X := []) (n := 3) (As := [.int a1, .int a2, .int a3]) (rest := [.ref q1]) hx hb hml hts hown hK hX hP hD hS hA (kMain_ok l D cy M q1 a1 a2 a3 (by rw [hM]; rfl) (by rw [hM]; rfl) (by rw [hM]; rfl) (by rw [hM]; rfl) (by rw [hM]; rfl) m7 k7 (by rw [hM]; rfl) (by rw [hM]; rfl) (by rw [hM]; rfl) m3 k3 (by rw [hM]; rfl) m4 k4 (by rw [hM]; rfl) (by rw [hM]; rfl) (by rw [hM]; rfl) (by rw [hM]; rfl) (by rw [hM]; rfl) (by rw [hM]; rfl)) rfl t_18 t_19 t_1 t_20 rfl (by decide +kernel) rfl rfl ⟨Nat.le_of_ble_eq_true rfl, Nat.le_of_ble_eq_true rfl⟩ hl.1 rfl (lv_room (Nat.le_of_ble_eq_true rfl)) dL_law_19 ⟨Nat.le_of_ble_eq_true rfl, Nat.le_of_ble_eq_true rfl⟩ (fun ad1 H locs ha hPn hDn hSn => ?_)
  have ha : ad1 6 0 0 = q1 := ha
  subst ha
  have hP : va_P D vwCl (wl cy ad1 NSa M) H := hPn
  have hD : va_D (fun q : Nat => s.heap.size ≤ q) (wl cy ad1 NSa M) := hDn
  have hS := hSn
  refine lv_astore_n (lv' := [(1, .ref (ad1 6 0 0)), (0, .ref b)]) hx hb dL_law_22 rfl hl (by decide) rfl (fun ls hl => ?_)
  refine va_new (ci := 10) (fs := [.int 0, .int 0, .null, .null, .null, .null, .int 0, .null, .null, .null, .null, .null, .int 0, .int 0, .null, .null, .int 0]) (C := RX11) (T := TX11) (N := 17) hx hb hts inX11 tyX11 tyX11_ok hown (hts _ t_727) (hts _ t_728) (hts _ t_14) hK hP hD hS hA rfl (fun j hj => by rcases (show j = 0 ∨ j = 1 ∨ j = 2 ∨ j = 3 ∨ j = 4 ∨ j = 5 ∨ j = 6 ∨ j = 7 ∨ j = 8 ∨ j = 9 ∨ j = 10 ∨ j = 11 ∨ j = 12 ∨ j = 13 ∨ j = 14 ∨ j = 15 ∨ j = 16 by omega) with rfl | rfl | rfl | rfl | rfl | rfl | rfl | rfl | rfl | rfl | rfl | rfl | rfl | rfl | rfl | rfl | rfl <;> rfl) (Nat.le_of_ble_eq_true rfl) (Nat.le_of_ble_eq_true rfl) dL_law_23 (fun q2 H hP hD hS => ?_)
  refine lv_dup hx hb dL_law_26 rfl ?_
  refine lv_aload_n hx hb dL_law_27 rfl (lv_at hl 1 rfl) ?_
  refine lv_iconst (v := 0) hx hb dL_law_28 (by decide) ?_
  refine y_cell (by decide) hL2 hx hb hml hts hown hP hS hXs hbl hl.1 ⟨Nat.le_of_ble_eq_true rfl, Nat.le_of_ble_eq_true rfl⟩ (lv_room (Nat.le_of_ble_eq_true rfl)) dL_law_29 ⟨Nat.le_of_ble_eq_true rfl, Nat.le_of_ble_eq_true rfl⟩ (fun H locs hP hS => ?_)
  rw [ha1]
  refine lv_aload_n hx hb dL_law_32 rfl (lv_at hl 1 rfl) ?_
  refine lv_iconst (v := 1) hx hb dL_law_33 (by decide) ?_
  refine y_cell (by decide) hL2 hx hb hml hts hown hP hS hXs hbl hl.1 ⟨Nat.le_of_ble_eq_true rfl, Nat.le_of_ble_eq_true rfl⟩ (lv_room (Nat.le_of_ble_eq_true rfl)) dL_law_34 ⟨Nat.le_of_ble_eq_true rfl, Nat.le_of_ble_eq_true rfl⟩ (fun H locs hP hS => ?_)
  rw [ha2]
  refine lv_aload_n hx hb dL_law_37 rfl (lv_at hl 1 rfl) ?_
  refine lv_iconst (v := 2) hx hb dL_law_38 (by decide) ?_
  refine y_cell (by decide) hL2 hx hb hml hts hown hP hS hXs hbl hl.1 ⟨Nat.le_of_ble_eq_true rfl, Nat.le_of_ble_eq_true rfl⟩ (lv_room (Nat.le_of_ble_eq_true rfl)) dL_law_39 ⟨Nat.le_of_ble_eq_true rfl, Nat.le_of_ble_eq_true rfl⟩ (fun H locs hP hS => ?_)
  rw [ha3]
  refine y_ci (X := wl cy ad1 NSa M) (n := 3) (As := [.int a1, .int a2, .int a3]) (rest := [.ref q2]) hx hb hml hts hown hK hX hP hD hS hA (by have h9 := kModel_ok l D cy M q2 a1 a2 a3 u1 ku1 u2 ku2 gm km; rw [uI_same (show M 7 0 = gm by rw [hM]; rfl)] at h9; exact h9) rfl t_729 t_730 t_14 t_731 rfl (by decide +kernel) rfl rfl ⟨Nat.le_of_ble_eq_true rfl, Nat.le_of_ble_eq_true rfl⟩ hl.1 rfl (lv_room (Nat.le_of_ble_eq_true rfl)) dL_law_42 ⟨Nat.le_of_ble_eq_true rfl, Nat.le_of_ble_eq_true rfl⟩ (fun ad2 H locs ha hPn hDn hSn => ?_)
  have ha : ad2 7 0 0 = q2 := ha
  subst ha
  obtain ⟨ad, e1, e2⟩ : ∃ f : Nat → Nat → Nat → Nat, (∀ a, a ≠ 7 → ad1 a = f a) ∧ ad2 7 = f 7 := ⟨fun a => if a = 7 then ad2 a else ad1 a, fun a ha => by simp [ha], by simp⟩
  have ew : wl cy ad1 NSa M ++ wl cy ad2 NSb M = wl cy ad (NSa ++ NSb) M := by rw [wl_app, wl_7 e1, wl_b e2]
  have hP : va_P D vwCl (wl cy ad1 NSa M ++ wl cy ad2 NSb M) H := hPn
  have hD : va_D (fun q : Nat => s.heap.size ≤ q) (wl cy ad1 NSa M ++ wl cy ad2 NSb M) := hDn
  rw [ew] at hP hD
  have hW : Wl D cy ad (NSa ++ NSb) (fun q : Nat => s.heap.size ≤ q) s.heap M H locs := ⟨hP, hD, hSn⟩
  have e16 : ad1 6 = ad 6 := e1 6 (by decide)
  rw [e16] at hl
  rw [e2]
  refine lv_astore_n (lv' := [(2, .ref (ad 7 0 0)), (1, .ref (ad 6 0 0)), (0, .ref b)]) hx hb dL_law_45 rfl hl (by decide) rfl (fun ls hl => ?_)
  refine lv_iconst (v := 3) hx hb dL_law_46 (by decide) ?_
  refine lv_istore_n (lv' := [(3, .int 3), (2, .ref (ad 7 0 0)), (1, .ref (ad 6 0 0)), (0, .ref b)]) hx hb dL_law_47 rfl hl (by decide) rfl (fun ls hl => ?_)
  have hF : M 6 0 1 = fun _ => 0 := by rw [hM]; rfl
  have hLI : LI cy ad (NSa ++ NSb) (M 6 0 1) := by
    refine ⟨⟨fun i o x => ct_lt (by decide), fun i o ho => in_ab.1 i (szSt_lt ho) o ho⟩, ⟨fun i o x => rfl, fun i o ho => in_ab.2.1 i (szPl_lt ho) o ho⟩, ⟨fun o x => rfl, fun o ho => in_ab.2.2.1 o ho⟩, ⟨fun o x => rfl, fun o ho => in_ab.2.2.2 o ho⟩, fun r hr h => ?_, fun r hr _ => rel_fresh r hr, rel_six⟩
    rw [hF] at h
    have h : (0 : Int32) = 1 := h
    exact absurd h (by decide)
  refine W.widen (k := 1000 + 30 * 0) (n := 20000 + 1939 * 0) (Nat.le_of_ble_eq_true rfl) (Nat.le_of_ble_eq_true rfl) ?_
  exact law_loop Rel hs_place hs_door hs_rule hs_size hs_access hs_run hs_add hs_estimate hs_counter hs_bit hs_remove hs_where hs_key hs_about hs_trace hs_replay hs_kept hs_save hs_load hs_sound hL C0 hK hX (L + 1) 0 3 rfl (by omega) (by omega) (by decide) ad (NSa ++ NSb) M H locs ls hLI hRel hW (lv_sub hl [3, 2, 1, 0] rfl)
