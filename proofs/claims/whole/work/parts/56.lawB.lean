set_option maxHeartbeats 40000000 in
set_option maxRecDepth 100000 in
/-- THE LAW'S LOOP: at its head, after j calls, class and reference stand alike -/
theorem law_loop {p : Program} {l : Launch} {e : Env} {s : State} {m : MethodId} {below : List Frame} {meth : Method} {c : Code} {D : va_G} {cy : Nat → ClassId} {b L : Nat} {xs : Nat → Int32} (Rel : Me → Prop) (hs_place : Sim_place Rel) (hs_door : Sim_door Rel) (hs_rule : Sim_rule Rel) (hs_size : Sim_size Rel) (hs_access : Sim_access Rel) (hs_run : Sim_run Rel) (hs_add : Sim_add Rel) (hs_estimate : Sim_estimate Rel) (hs_counter : Sim_counter Rel) (hs_bit : Sim_bit Rel) (hs_remove : Sim_remove Rel) (hs_where : Sim_where Rel) (hs_key : Sim_key Rel) (hs_about : Sim_about Rel) (hs_trace : Sim_trace Rel) (hs_replay : Sim_replay Rel) (hs_kept : Sim_kept Rel) (hs_save : Sim_save Rel) (hs_load : Sim_load Rel) (hs_sound : Sim_sound Rel) (hL : L ≤ 2563) (C0 : lw_At p s m meth c b L xs) (hK : va_K D vwCl (tyl cy) s) (hX : Xt (fun q : Nat => s.heap.size ≤ q) s s.heap) :
    ∀ (n j i : Nat), i = 3 + 5 * j → i ≤ L + 3 → L + 4 ≤ i + n → j ≤ 512 → ∀ (ad : Nat → Nat → Nat → Nat) (ns : List (Nat × Nat × Nat)) (M : Me) (H : Heap) (locs : List Loc) (ls : Array Slot), LI cy ad ns (M 6 0 1) → Rel M → Wl D cy ad ns (fun q : Nat => s.heap.size ≤ q) s.heap M H locs → lv_has ls 4 [(0, .ref b), (1, .ref (ad 6 0 0)), (2, .ref (ad 7 0 0)), (3, .int (nI i))] → W p l e room_1 s m #[Value.ref b] below meth c H locs (1000 + 30 * j) (20000 + 1939 * j) (lw_Z below #[Value.ref b] s) (F0 m 48 ls []) := by
  obtain ⟨hx, hb, hr, hml, hown, hts0, hXs, hbl, hlocks, hgv⟩ := C0
  have hts : ∀ w ∈ tk_tb, w.before #[Value.ref b] s = true := fun w h => hts0 w (tk_good w h).1
  have hA : ∀ q : Nat, s.heap.size ≤ q → (fun q : Nat => s.heap.size ≤ q) q := fun _ h => h
  have hbA : ¬ (fun q : Nat => s.heap.size ≤ q) b := Nat.not_le.mpr hbl
  intro n
  induction n with
  | zero => intro j i hi hi3 hn; omega
  | succ n ih =>
    intro j i hi hi3 hn hj ad ns M H locs ls hLI hRel hW hl
    obtain ⟨hI0, hI5, hI6, hI7, hSv, hNs, h6⟩ := id hLI
    have hc0 : 1000 + 30 * j ≤ room_1.cells ∧ 20000 + 1939 * j ≤ room_1.slots := ⟨by show _ ≤ 600000; omega, by show _ ≤ 7302250; omega⟩
    refine lv_iload_n hx hb dL_law_48 rfl (lv_at hl 3 rfl) ?_
    refine lv_aload_n hx hb dL_law_49 rfl (lv_at hl 0 rfl) ?_
    refine va_slen hx hb hXs hbl hbA hW.2.2 dL_law_50 ?_
    refine lv_iconst (v := 5) hx hb dL_law_51 (by decide) ?_
    refine lv_isub hx hb dL_law_52 ?_
    refine lv_icmp_gt (tgt := 742) hx hb dL_law_53 (by decide) (fun c1 => ?_) (fun c1 => ?_)
    · refine lv_iconst (v := 1) hx hb dL_law_742 (by decide) ?_
      refine va_forget (fun q hq => hW.2.2.2.2 q hq) ?_
      refine W.widen (k := 600000) (n := 7302250) (by omega) (by omega) ?_
      exact lw_ret hx hb hr hlocks dL_law_743
    · have hlt : i + 5 ≤ L := by
        rcases Nat.lt_or_ge L (i + 5) with h | h
        · exfalso; apply c1; rw [Int32.lt_iff_toInt_lt]
          have h2 : (nI i).toInt = (i : Int) := nI_toInt (by omega)
          have h3 : (Int32.ofNat L - 5).toInt = (L : Int) - 5 := pk_sub_toInt (a := L) (b := 5) (by omega) (by decide)
          rw [h2, h3]; omega
        · exact h
      have hj2 : j + 1 ≤ 512 := by omega
      have hc1 : 1000 + 30 * j + 30 ≤ room_1.cells ∧ 20000 + 1939 * j + 1939 ≤ room_1.slots := ⟨by show _ ≤ 600000; omega, by show _ ≤ 7302250; omega⟩
      have next : ∀ (ad : Nat → Nat → Nat → Nat) (ns : List (Nat × Nat × Nat)) (M : Me) (H : Heap) (locs : List Loc) (ls : Array Slot), LI cy ad ns (M 6 0 1) → Rel M → Wl D cy ad ns (fun q : Nat => s.heap.size ≤ q) s.heap M H locs → lv_has ls 4 [(0, .ref b), (1, .ref (ad 6 0 0)), (2, .ref (ad 7 0 0)), (3, .int (nI i))] → W p l e room_1 s m #[Value.ref b] below meth c H locs (1000 + 30 * (j + 1)) (20000 + 1939 * (j + 1)) (lw_Z below #[Value.ref b] s) (F0 m 736 ls []) := by
        intro ad ns M H locs ls hLI hRel hW hl
        refine lv_iinc (v := nI (i + 5)) (lv' := [(3, .int (nI (i + 5))), (0, .ref b), (1, .ref (ad 6 0 0)), (2, .ref (ad 7 0 0))]) hx hb dL_law_736 hl (k := 3) rfl (nI_add i 5) (by decide) rfl (fun ls hl => ?_)
        refine lv_goto (tgt := 48) hx hb dL_law_739 (by decide) ?_
        exact ih (j + 1) (i + 5) (by omega) (by omega) (by omega) hj2 ad ns M H locs ls hLI hRel hW (lv_sub hl [1, 2, 3, 0] rfl)
      obtain ⟨a1, ha1⟩ : ∃ z, xs (nI i + 1).toNatClampNeg = z := ⟨_, rfl⟩
      have hv1 : vp_in (nI i + 1) L := vp_step (j := 1) (by omega) (by omega)
      obtain ⟨a2, ha2⟩ : ∃ z, xs (nI i + 2).toNatClampNeg = z := ⟨_, rfl⟩
      have hv2 : vp_in (nI i + 2) L := vp_step (j := 2) (by omega) (by omega)
      obtain ⟨a3, ha3⟩ : ∃ z, xs (nI i + 3).toNatClampNeg = z := ⟨_, rfl⟩
      have hv3 : vp_in (nI i + 3) L := vp_step (j := 3) (by omega) (by omega)
      obtain ⟨a4, ha4⟩ : ∃ z, xs (nI i + 4).toNatClampNeg = z := ⟨_, rfl⟩
      have hv4 : vp_in (nI i + 4) L := vp_step (j := 4) (by omega) (by omega)
      refine lv_aload_n hx hb dL_law_56 rfl (lv_at hl 0 rfl) ?_
      refine lv_iload_n hx hb dL_law_57 rfl (lv_at hl 3 rfl) ?_
      refine va_sld hx hb hXs hbl hbA hW.2.2 (vp_in_nI (by omega) (by omega)) dL_law_58 ?_
      refine lv_bipush (v := 31) hx hb dL_law_59 (by decide) ?_
      refine lv_iand hx hb dL_law_61 ?_
      generalize xs (nI i).toNatClampNeg &&& 31 = x
      by_cases c10 : x = 0
      · refine x_tab (v := 0) c10 hx hb dL_law_62 (by decide) (by decide) rfl (by decide) (tgt := 156) ?_
        obtain ⟨r, M2, g2, h1, hfl, h2, h3⟩ := hs_place M a1 a2 a3 hRel
        refine lv_aload_n hx hb dL_law_156 rfl (lv_at hl 1 rfl) ?_
        refine lv_aload_n hx hb dL_law_157 rfl (lv_at hl 0 rfl) ?_
        refine lv_iload_n hx hb dL_law_158 rfl (lv_at hl 3 rfl) ?_
        refine lv_iconst (v := 1) hx hb dL_law_159 (by decide) ?_
        refine lv_iadd hx hb dL_law_160 ?_
        refine va_sld hx hb hXs hbl hbA hW.2.2 hv1 dL_law_161 ?_
        rw [ha1]
        refine lv_aload_n hx hb dL_law_162 rfl (lv_at hl 0 rfl) ?_
        refine lv_iload_n hx hb dL_law_163 rfl (lv_at hl 3 rfl) ?_
        refine lv_iconst (v := 2) hx hb dL_law_164 (by decide) ?_
        refine lv_iadd hx hb dL_law_165 ?_
        refine va_sld hx hb hXs hbl hbA hW.2.2 hv2 dL_law_166 ?_
        rw [ha2]
        refine lv_aload_n hx hb dL_law_167 rfl (lv_at hl 0 rfl) ?_
        refine lv_iload_n hx hb dL_law_168 rfl (lv_at hl 3 rfl) ?_
        refine lv_iconst (v := 3) hx hb dL_law_169 (by decide) ?_
        refine lv_iadd hx hb dL_law_170 ?_
        refine va_sld hx hb hXs hbl hbA hW.2.2 hv3 dL_law_171 ?_
        rw [ha3]
        refine x_vi (n := 3) (As := [.int a1, .int a2, .int a3]) (rest := []) hx hb hml hts hown hK hW hA (f10_place_ok l D cy ad ns hI0 hI5 hI6 M a1 a2 a3 r M2 h1) (hI6.2 0 (by decide)) rfl (hI6.1 0 _) rfl rfl t_322 t_323 t_324 t_1 t_325 rfl (by decide +kernel) rfl rfl ⟨Nat.le_of_ble_eq_true rfl, Nat.le_of_ble_eq_true rfl⟩ hl.1 rfl (lv_room (Nat.le_of_ble_eq_true rfl)) dL_law_172 hc0 (fun H locs hW => ?_)
        have hLI : LI cy ad ns (M2 6 0 1) := by rw [hfl]; exact hLI
        refine lv_aload_n hx hb dL_law_175 rfl (lv_at hl 2 rfl) ?_
        refine lv_aload_n hx hb dL_law_176 rfl (lv_at hl 0 rfl) ?_
        refine lv_iload_n hx hb dL_law_177 rfl (lv_at hl 3 rfl) ?_
        refine lv_iconst (v := 1) hx hb dL_law_178 (by decide) ?_
        refine lv_iadd hx hb dL_law_179 ?_
        refine va_sld hx hb hXs hbl hbA hW.2.2 hv1 dL_law_180 ?_
        rw [ha1]
        refine lv_aload_n hx hb dL_law_181 rfl (lv_at hl 0 rfl) ?_
        refine lv_iload_n hx hb dL_law_182 rfl (lv_at hl 3 rfl) ?_
        refine lv_iconst (v := 2) hx hb dL_law_183 (by decide) ?_
        refine lv_iadd hx hb dL_law_184 ?_
        refine va_sld hx hb hXs hbl hbA hW.2.2 hv2 dL_law_185 ?_
        rw [ha2]
        refine lv_aload_n hx hb dL_law_186 rfl (lv_at hl 0 rfl) ?_
        refine lv_iload_n hx hb dL_law_187 rfl (lv_at hl 3 rfl) ?_
        refine lv_iconst (v := 3) hx hb dL_law_188 (by decide) ?_
        refine lv_iadd hx hb dL_law_189 ?_
        refine va_sld hx hb hXs hbl hbA hW.2.2 hv3 dL_law_190 ?_
        rw [ha3]
        have hC := f11_place_ok l D cy ad ns M2 7 0 hI7 (M2 7 0) a1 a2 a3 r g2 h2
        rw [uI_id] at hC
        refine x_vi (n := 3) (As := [.int a1, .int a2, .int a3]) (rest := [.int r]) hx hb hml hts hown hK hW hA hC (hI7.2 0 (by decide)) rfl (hI7.1 0 _) rfl rfl t_793 t_794 t_795 t_14 t_796 rfl (by decide +kernel) rfl rfl ⟨Nat.le_of_ble_eq_true rfl, Nat.le_of_ble_eq_true rfl⟩ hl.1 rfl (lv_room (Nat.le_of_ble_eq_true rfl)) dL_law_191 hc0 (fun H locs hW => ?_)
        refine lv_icmp_eq (tgt := 736) hx hb dL_law_194 (by decide) (fun _ => ?_) (fun c9 => absurd rfl c9)
        refine W.widen (k := 1000 + 30 * (j + 1)) (n := 20000 + 1939 * (j + 1)) (by omega) (by omega) ?_
        exact next ad ns (uI M2 7 0 g2) H locs ls (by rw [uI_ne (by decide)]; exact hLI) h3 hW hl
      by_cases c11 : x = 1
      · refine x_tab (v := 1) c11 hx hb dL_law_62 (by decide) (by decide) rfl (by decide) (tgt := 199) ?_
        obtain ⟨r, M2, g2, h1, hfl, h2, h3⟩ := hs_door M a1 a2 a3 hRel
        refine lv_aload_n hx hb dL_law_199 rfl (lv_at hl 1 rfl) ?_
        refine lv_aload_n hx hb dL_law_200 rfl (lv_at hl 0 rfl) ?_
        refine lv_iload_n hx hb dL_law_201 rfl (lv_at hl 3 rfl) ?_
        refine lv_iconst (v := 1) hx hb dL_law_202 (by decide) ?_
        refine lv_iadd hx hb dL_law_203 ?_
        refine va_sld hx hb hXs hbl hbA hW.2.2 hv1 dL_law_204 ?_
        rw [ha1]
        refine lv_aload_n hx hb dL_law_205 rfl (lv_at hl 0 rfl) ?_
        refine lv_iload_n hx hb dL_law_206 rfl (lv_at hl 3 rfl) ?_
        refine lv_iconst (v := 2) hx hb dL_law_207 (by decide) ?_
        refine lv_iadd hx hb dL_law_208 ?_
        refine va_sld hx hb hXs hbl hbA hW.2.2 hv2 dL_law_209 ?_
        rw [ha2]
        refine lv_aload_n hx hb dL_law_210 rfl (lv_at hl 0 rfl) ?_
        refine lv_iload_n hx hb dL_law_211 rfl (lv_at hl 3 rfl) ?_
        refine lv_iconst (v := 3) hx hb dL_law_212 (by decide) ?_
        refine lv_iadd hx hb dL_law_213 ?_
        refine va_sld hx hb hXs hbl hbA hW.2.2 hv3 dL_law_214 ?_
        rw [ha3]
        refine x_vi (n := 3) (As := [.int a1, .int a2, .int a3]) (rest := []) hx hb hml hts hown hK hW hA (f10_door_ok l D cy ad ns hI0 hI5 hI6 M a1 a2 a3 r M2 h1) (hI6.2 0 (by decide)) rfl (hI6.1 0 _) rfl rfl t_338 t_339 t_340 t_1 t_341 rfl (by decide +kernel) rfl rfl ⟨Nat.le_of_ble_eq_true rfl, Nat.le_of_ble_eq_true rfl⟩ hl.1 rfl (lv_room (Nat.le_of_ble_eq_true rfl)) dL_law_215 hc0 (fun H locs hW => ?_)
        have hLI : LI cy ad ns (M2 6 0 1) := by rw [hfl]; exact hLI
        refine lv_aload_n hx hb dL_law_218 rfl (lv_at hl 2 rfl) ?_
        refine lv_aload_n hx hb dL_law_219 rfl (lv_at hl 0 rfl) ?_
        refine lv_iload_n hx hb dL_law_220 rfl (lv_at hl 3 rfl) ?_
        refine lv_iconst (v := 1) hx hb dL_law_221 (by decide) ?_
        refine lv_iadd hx hb dL_law_222 ?_
        refine va_sld hx hb hXs hbl hbA hW.2.2 hv1 dL_law_223 ?_
        rw [ha1]
        refine lv_aload_n hx hb dL_law_224 rfl (lv_at hl 0 rfl) ?_
        refine lv_iload_n hx hb dL_law_225 rfl (lv_at hl 3 rfl) ?_
        refine lv_iconst (v := 2) hx hb dL_law_226 (by decide) ?_
        refine lv_iadd hx hb dL_law_227 ?_
        refine va_sld hx hb hXs hbl hbA hW.2.2 hv2 dL_law_228 ?_
        rw [ha2]
        refine lv_aload_n hx hb dL_law_229 rfl (lv_at hl 0 rfl) ?_
        refine lv_iload_n hx hb dL_law_230 rfl (lv_at hl 3 rfl) ?_
        refine lv_iconst (v := 3) hx hb dL_law_231 (by decide) ?_
        refine lv_iadd hx hb dL_law_232 ?_
        refine va_sld hx hb hXs hbl hbA hW.2.2 hv3 dL_law_233 ?_
        rw [ha3]
        have hC := f11_door_ok l D cy ad ns M2 7 0 hI7 (M2 7 0) a1 a2 a3 r g2 h2
        rw [uI_id] at hC
        refine x_vi (n := 3) (As := [.int a1, .int a2, .int a3]) (rest := [.int r]) hx hb hml hts hown hK hW hA hC (hI7.2 0 (by decide)) rfl (hI7.1 0 _) rfl rfl t_807 t_808 t_809 t_14 t_810 rfl (by decide +kernel) rfl rfl ⟨Nat.le_of_ble_eq_true rfl, Nat.le_of_ble_eq_true rfl⟩ hl.1 rfl (lv_room (Nat.le_of_ble_eq_true rfl)) dL_law_234 hc0 (fun H locs hW => ?_)
        refine lv_icmp_eq (tgt := 736) hx hb dL_law_237 (by decide) (fun _ => ?_) (fun c9 => absurd rfl c9)
        refine W.widen (k := 1000 + 30 * (j + 1)) (n := 20000 + 1939 * (j + 1)) (by omega) (by omega) ?_
        exact next ad ns (uI M2 7 0 g2) H locs ls (by rw [uI_ne (by decide)]; exact hLI) h3 hW hl
      by_cases c12 : x = 2
      · refine x_tab (v := 2) c12 hx hb dL_law_62 (by decide) (by decide) rfl (by decide) (tgt := 242) ?_
        obtain ⟨r, M2, g2, h1, hfl, h2, h3⟩ := hs_rule M a1 a2 hRel
        refine lv_aload_n hx hb dL_law_242 rfl (lv_at hl 1 rfl) ?_
        refine lv_aload_n hx hb dL_law_243 rfl (lv_at hl 0 rfl) ?_
        refine lv_iload_n hx hb dL_law_244 rfl (lv_at hl 3 rfl) ?_
        refine lv_iconst (v := 1) hx hb dL_law_245 (by decide) ?_
        refine lv_iadd hx hb dL_law_246 ?_
        refine va_sld hx hb hXs hbl hbA hW.2.2 hv1 dL_law_247 ?_
        rw [ha1]
        refine lv_aload_n hx hb dL_law_248 rfl (lv_at hl 0 rfl) ?_
        refine lv_iload_n hx hb dL_law_249 rfl (lv_at hl 3 rfl) ?_
        refine lv_iconst (v := 2) hx hb dL_law_250 (by decide) ?_
        refine lv_iadd hx hb dL_law_251 ?_
        refine va_sld hx hb hXs hbl hbA hW.2.2 hv2 dL_law_252 ?_
        rw [ha2]
        refine x_vxi (n := 2) (As := [.int a1, .int a2]) (rest := []) hx hb hml hts hown hK hX hW hA (f10_rule_ok l D cy ad ns hI0 hI5 hI6 M a1 a2 r M2 h1) (hI6.2 0 (by decide)) rfl (hI6.1 0 _) rfl rfl t_346 t_347 t_348 t_1 t_349 rfl (by decide +kernel) rfl rfl ⟨Nat.le_of_ble_eq_true rfl, Nat.le_of_ble_eq_true rfl⟩ hl.1 rfl (lv_room (Nat.le_of_ble_eq_true rfl)) dL_law_253 hc0 (fun H locs hW => ?_)
        have hLI : LI cy ad ns (M2 6 0 1) := by rw [hfl]; exact hLI
        refine lv_aload_n hx hb dL_law_256 rfl (lv_at hl 2 rfl) ?_
        refine lv_aload_n hx hb dL_law_257 rfl (lv_at hl 0 rfl) ?_
        refine lv_iload_n hx hb dL_law_258 rfl (lv_at hl 3 rfl) ?_
        refine lv_iconst (v := 1) hx hb dL_law_259 (by decide) ?_
        refine lv_iadd hx hb dL_law_260 ?_
        refine va_sld hx hb hXs hbl hbA hW.2.2 hv1 dL_law_261 ?_
        rw [ha1]
        refine lv_aload_n hx hb dL_law_262 rfl (lv_at hl 0 rfl) ?_
        refine lv_iload_n hx hb dL_law_263 rfl (lv_at hl 3 rfl) ?_
        refine lv_iconst (v := 2) hx hb dL_law_264 (by decide) ?_
        refine lv_iadd hx hb dL_law_265 ?_
        refine va_sld hx hb hXs hbl hbA hW.2.2 hv2 dL_law_266 ?_
        rw [ha2]
        have hC := f11_rule_ok l D cy ad ns M2 7 0 hI7 (M2 7 0) a1 a2 r g2 h2
        rw [uI_id] at hC
        refine x_vi (n := 2) (As := [.int a1, .int a2]) (rest := [.int r]) hx hb hml hts hown hK hW hA hC (hI7.2 0 (by decide)) rfl (hI7.1 0 _) rfl rfl t_811 t_812 t_813 t_14 t_814 rfl (by decide +kernel) rfl rfl ⟨Nat.le_of_ble_eq_true rfl, Nat.le_of_ble_eq_true rfl⟩ hl.1 rfl (lv_room (Nat.le_of_ble_eq_true rfl)) dL_law_267 hc0 (fun H locs hW => ?_)
        refine lv_icmp_eq (tgt := 736) hx hb dL_law_270 (by decide) (fun _ => ?_) (fun c9 => absurd rfl c9)
        refine W.widen (k := 1000 + 30 * (j + 1)) (n := 20000 + 1939 * (j + 1)) (by omega) (by omega) ?_
        exact next ad ns (uI M2 7 0 g2) H locs ls (by rw [uI_ne (by decide)]; exact hLI) h3 hW hl
      by_cases c13 : x = 3
      · refine x_tab (v := 3) c13 hx hb dL_law_62 (by decide) (by decide) rfl (by decide) (tgt := 275) ?_
        obtain ⟨r, M2, g2, h1, hfl, h2, h3⟩ := hs_size M a1 a2 hRel
        refine lv_aload_n hx hb dL_law_275 rfl (lv_at hl 1 rfl) ?_
        refine lv_aload_n hx hb dL_law_276 rfl (lv_at hl 0 rfl) ?_
        refine lv_iload_n hx hb dL_law_277 rfl (lv_at hl 3 rfl) ?_
        refine lv_iconst (v := 1) hx hb dL_law_278 (by decide) ?_
        refine lv_iadd hx hb dL_law_279 ?_
        refine va_sld hx hb hXs hbl hbA hW.2.2 hv1 dL_law_280 ?_
        rw [ha1]
        refine lv_aload_n hx hb dL_law_281 rfl (lv_at hl 0 rfl) ?_
        refine lv_iload_n hx hb dL_law_282 rfl (lv_at hl 3 rfl) ?_
        refine lv_iconst (v := 2) hx hb dL_law_283 (by decide) ?_
        refine lv_iadd hx hb dL_law_284 ?_
        refine va_sld hx hb hXs hbl hbA hW.2.2 hv2 dL_law_285 ?_
        rw [ha2]
        refine x_vi (n := 2) (As := [.int a1, .int a2]) (rest := []) hx hb hml hts hown hK hW hA (f10_size_ok l D cy ad ns hI0 hI5 hI6 M a1 a2 r M2 h1) (hI6.2 0 (by decide)) rfl (hI6.1 0 _) rfl rfl t_386 t_387 t_388 t_1 t_389 rfl (by decide +kernel) rfl rfl ⟨Nat.le_of_ble_eq_true rfl, Nat.le_of_ble_eq_true rfl⟩ hl.1 rfl (lv_room (Nat.le_of_ble_eq_true rfl)) dL_law_286 hc0 (fun H locs hW => ?_)
        have hLI : LI cy ad ns (M2 6 0 1) := by rw [hfl]; exact hLI
        refine lv_aload_n hx hb dL_law_289 rfl (lv_at hl 2 rfl) ?_
        refine lv_aload_n hx hb dL_law_290 rfl (lv_at hl 0 rfl) ?_
        refine lv_iload_n hx hb dL_law_291 rfl (lv_at hl 3 rfl) ?_
        refine lv_iconst (v := 1) hx hb dL_law_292 (by decide) ?_
        refine lv_iadd hx hb dL_law_293 ?_
        refine va_sld hx hb hXs hbl hbA hW.2.2 hv1 dL_law_294 ?_
        rw [ha1]
        refine lv_aload_n hx hb dL_law_295 rfl (lv_at hl 0 rfl) ?_
        refine lv_iload_n hx hb dL_law_296 rfl (lv_at hl 3 rfl) ?_
        refine lv_iconst (v := 2) hx hb dL_law_297 (by decide) ?_
        refine lv_iadd hx hb dL_law_298 ?_
        refine va_sld hx hb hXs hbl hbA hW.2.2 hv2 dL_law_299 ?_
        rw [ha2]
        have hC := f11_size_ok l D cy ad ns M2 7 0 hI7 (M2 7 0) a1 a2 r g2 h2
        rw [uI_id] at hC
        refine x_vi (n := 2) (As := [.int a1, .int a2]) (rest := [.int r]) hx hb hml hts hown hK hW hA hC (hI7.2 0 (by decide)) rfl (hI7.1 0 _) rfl rfl t_815 t_816 t_817 t_14 t_818 rfl (by decide +kernel) rfl rfl ⟨Nat.le_of_ble_eq_true rfl, Nat.le_of_ble_eq_true rfl⟩ hl.1 rfl (lv_room (Nat.le_of_ble_eq_true rfl)) dL_law_300 hc0 (fun H locs hW => ?_)
        refine lv_icmp_eq (tgt := 736) hx hb dL_law_303 (by decide) (fun _ => ?_) (fun c9 => absurd rfl c9)
        refine W.widen (k := 1000 + 30 * (j + 1)) (n := 20000 + 1939 * (j + 1)) (by omega) (by omega) ?_
        exact next ad ns (uI M2 7 0 g2) H locs ls (by rw [uI_ne (by decide)]; exact hLI) h3 hW hl
      by_cases c14 : x = 4
      · refine x_tab (v := 4) c14 hx hb dL_law_62 (by decide) (by decide) rfl (by decide) (tgt := 308) ?_
        obtain ⟨r, M2, g2, h1, hfl, h2, h3⟩ := hs_access M a1 hRel
        refine lv_aload_n hx hb dL_law_308 rfl (lv_at hl 1 rfl) ?_
        refine lv_aload_n hx hb dL_law_309 rfl (lv_at hl 0 rfl) ?_
        refine lv_iload_n hx hb dL_law_310 rfl (lv_at hl 3 rfl) ?_
        refine lv_iconst (v := 1) hx hb dL_law_311 (by decide) ?_
        refine lv_iadd hx hb dL_law_312 ?_
        refine va_sld hx hb hXs hbl hbA hW.2.2 hv1 dL_law_313 ?_
        rw [ha1]
        refine x_vi (n := 1) (As := [.int a1]) (rest := []) hx hb hml hts hown hK hW hA (f10_access_ok l D cy ad ns hI0 hI5 hI6 M a1 r M2 h1) (hI6.2 0 (by decide)) rfl (hI6.1 0 _) rfl rfl t_390 t_391 t_392 t_1 t_393 rfl (by decide +kernel) rfl rfl ⟨Nat.le_of_ble_eq_true rfl, Nat.le_of_ble_eq_true rfl⟩ hl.1 rfl (lv_room (Nat.le_of_ble_eq_true rfl)) dL_law_314 hc0 (fun H locs hW => ?_)
        have hLI : LI cy ad ns (M2 6 0 1) := by rw [hfl]; exact hLI
        refine lv_aload_n hx hb dL_law_317 rfl (lv_at hl 2 rfl) ?_
        refine lv_aload_n hx hb dL_law_318 rfl (lv_at hl 0 rfl) ?_
        refine lv_iload_n hx hb dL_law_319 rfl (lv_at hl 3 rfl) ?_
        refine lv_iconst (v := 1) hx hb dL_law_320 (by decide) ?_
        refine lv_iadd hx hb dL_law_321 ?_
        refine va_sld hx hb hXs hbl hbA hW.2.2 hv1 dL_law_322 ?_
        rw [ha1]
        have hC := f11_access_ok l D cy ad ns M2 7 0 hI7 (M2 7 0) a1 r g2 h2
        rw [uI_id] at hC
        refine x_vi (n := 1) (As := [.int a1]) (rest := [.int r]) hx hb hml hts hown hK hW hA hC (hI7.2 0 (by decide)) rfl (hI7.1 0 _) rfl rfl t_835 t_836 t_837 t_14 t_838 rfl (by decide +kernel) rfl rfl ⟨Nat.le_of_ble_eq_true rfl, Nat.le_of_ble_eq_true rfl⟩ hl.1 rfl (lv_room (Nat.le_of_ble_eq_true rfl)) dL_law_323 hc0 (fun H locs hW => ?_)
        refine lv_icmp_eq (tgt := 736) hx hb dL_law_326 (by decide) (fun _ => ?_) (fun c9 => absurd rfl c9)
        refine W.widen (k := 1000 + 30 * (j + 1)) (n := 20000 + 1939 * (j + 1)) (by omega) (by omega) ?_
        exact next ad ns (uI M2 7 0 g2) H locs ls (by rw [uI_ne (by decide)]; exact hLI) h3 hW hl
      by_cases c15 : x = 5
      · refine x_tab (v := 5) c15 hx hb dL_law_62 (by decide) (by decide) rfl (by decide) (tgt := 331) ?_
        obtain ⟨r, M2, g2, h1, hfl, h2, h3⟩ := hs_run M a1 a2 a3 hRel
        refine lv_aload_n hx hb dL_law_331 rfl (lv_at hl 1 rfl) ?_
        refine lv_aload_n hx hb dL_law_332 rfl (lv_at hl 0 rfl) ?_
        refine lv_iload_n hx hb dL_law_333 rfl (lv_at hl 3 rfl) ?_
        refine lv_iconst (v := 1) hx hb dL_law_334 (by decide) ?_
        refine lv_iadd hx hb dL_law_335 ?_
        refine va_sld hx hb hXs hbl hbA hW.2.2 hv1 dL_law_336 ?_
        rw [ha1]
        refine lv_aload_n hx hb dL_law_337 rfl (lv_at hl 0 rfl) ?_
        refine lv_iload_n hx hb dL_law_338 rfl (lv_at hl 3 rfl) ?_
        refine lv_iconst (v := 2) hx hb dL_law_339 (by decide) ?_
        refine lv_iadd hx hb dL_law_340 ?_
        refine va_sld hx hb hXs hbl hbA hW.2.2 hv2 dL_law_341 ?_
        rw [ha2]
        refine lv_aload_n hx hb dL_law_342 rfl (lv_at hl 0 rfl) ?_
        refine lv_iload_n hx hb dL_law_343 rfl (lv_at hl 3 rfl) ?_
        refine lv_iconst (v := 3) hx hb dL_law_344 (by decide) ?_
        refine lv_iadd hx hb dL_law_345 ?_
        refine va_sld hx hb hXs hbl hbA hW.2.2 hv3 dL_law_346 ?_
        rw [ha3]
        refine x_vi (n := 3) (As := [.int a1, .int a2, .int a3]) (rest := []) hx hb hml hts hown hK hW hA (f10_run_ok l D cy ad ns hI0 hI5 hI6 M a1 a2 a3 r M2 h1) (hI6.2 0 (by decide)) rfl (hI6.1 0 _) rfl rfl t_502 t_503 t_504 t_1 t_505 rfl (by decide +kernel) rfl rfl ⟨Nat.le_of_ble_eq_true rfl, Nat.le_of_ble_eq_true rfl⟩ hl.1 rfl (lv_room (Nat.le_of_ble_eq_true rfl)) dL_law_347 hc0 (fun H locs hW => ?_)
        have hLI : LI cy ad ns (M2 6 0 1) := by rw [hfl]; exact hLI
        refine lv_aload_n hx hb dL_law_350 rfl (lv_at hl 2 rfl) ?_
        refine lv_aload_n hx hb dL_law_351 rfl (lv_at hl 0 rfl) ?_
        refine lv_iload_n hx hb dL_law_352 rfl (lv_at hl 3 rfl) ?_
        refine lv_iconst (v := 1) hx hb dL_law_353 (by decide) ?_
        refine lv_iadd hx hb dL_law_354 ?_
        refine va_sld hx hb hXs hbl hbA hW.2.2 hv1 dL_law_355 ?_
        rw [ha1]
        refine lv_aload_n hx hb dL_law_356 rfl (lv_at hl 0 rfl) ?_
        refine lv_iload_n hx hb dL_law_357 rfl (lv_at hl 3 rfl) ?_
        refine lv_iconst (v := 2) hx hb dL_law_358 (by decide) ?_
        refine lv_iadd hx hb dL_law_359 ?_
        refine va_sld hx hb hXs hbl hbA hW.2.2 hv2 dL_law_360 ?_
        rw [ha2]
        refine lv_aload_n hx hb dL_law_361 rfl (lv_at hl 0 rfl) ?_
        refine lv_iload_n hx hb dL_law_362 rfl (lv_at hl 3 rfl) ?_
        refine lv_iconst (v := 3) hx hb dL_law_363 (by decide) ?_
        refine lv_iadd hx hb dL_law_364 ?_
        refine va_sld hx hb hXs hbl hbA hW.2.2 hv3 dL_law_365 ?_
        rw [ha3]
        have hC := f11_run_ok l D cy ad ns M2 7 0 hI7 (M2 7 0) a1 a2 a3 r g2 h2
        rw [uI_id] at hC
        refine x_vi (n := 3) (As := [.int a1, .int a2, .int a3]) (rest := [.int r]) hx hb hml hts hown hK hW hA hC (hI7.2 0 (by decide)) rfl (hI7.1 0 _) rfl rfl t_899 t_900 t_901 t_14 t_902 rfl (by decide +kernel) rfl rfl ⟨Nat.le_of_ble_eq_true rfl, Nat.le_of_ble_eq_true rfl⟩ hl.1 rfl (lv_room (Nat.le_of_ble_eq_true rfl)) dL_law_366 hc0 (fun H locs hW => ?_)
        refine lv_icmp_eq (tgt := 736) hx hb dL_law_369 (by decide) (fun _ => ?_) (fun c9 => absurd rfl c9)
        refine W.widen (k := 1000 + 30 * (j + 1)) (n := 20000 + 1939 * (j + 1)) (by omega) (by omega) ?_
        exact next ad ns (uI M2 7 0 g2) H locs ls (by rw [uI_ne (by decide)]; exact hLI) h3 hW hl
      by_cases c16 : x = 6
      · refine x_tab (v := 6) c16 hx hb dL_law_62 (by decide) (by decide) rfl (by decide) (tgt := 374) ?_
        obtain ⟨r, M2, g2, h1, hfl, h2, h3⟩ := hs_add M a1 hRel
        refine lv_aload_n hx hb dL_law_374 rfl (lv_at hl 1 rfl) ?_
        refine lv_aload_n hx hb dL_law_375 rfl (lv_at hl 0 rfl) ?_
        refine lv_iload_n hx hb dL_law_376 rfl (lv_at hl 3 rfl) ?_
        refine lv_iconst (v := 1) hx hb dL_law_377 (by decide) ?_
        refine lv_iadd hx hb dL_law_378 ?_
        refine va_sld hx hb hXs hbl hbA hW.2.2 hv1 dL_law_379 ?_
        rw [ha1]
        refine x_vi (n := 1) (As := [.int a1]) (rest := []) hx hb hml hts hown hK hW hA (f10_add_ok l D cy ad ns hI0 hI5 hI6 M a1 r M2 h1) (hI6.2 0 (by decide)) rfl (hI6.1 0 _) rfl rfl t_506 t_507 t_508 t_1 t_509 rfl (by decide +kernel) rfl rfl ⟨Nat.le_of_ble_eq_true rfl, Nat.le_of_ble_eq_true rfl⟩ hl.1 rfl (lv_room (Nat.le_of_ble_eq_true rfl)) dL_law_380 hc0 (fun H locs hW => ?_)
        have hLI : LI cy ad ns (M2 6 0 1) := by rw [hfl]; exact hLI
        refine lv_aload_n hx hb dL_law_383 rfl (lv_at hl 2 rfl) ?_
        refine lv_aload_n hx hb dL_law_384 rfl (lv_at hl 0 rfl) ?_
        refine lv_iload_n hx hb dL_law_385 rfl (lv_at hl 3 rfl) ?_
        refine lv_iconst (v := 1) hx hb dL_law_386 (by decide) ?_
        refine lv_iadd hx hb dL_law_387 ?_
        refine va_sld hx hb hXs hbl hbA hW.2.2 hv1 dL_law_388 ?_
        rw [ha1]
        have hC := f11_add_ok l D cy ad ns M2 7 0 hI7 (M2 7 0) a1 r g2 h2
        rw [uI_id] at hC
        refine x_vi (n := 1) (As := [.int a1]) (rest := [.int r]) hx hb hml hts hown hK hW hA hC (hI7.2 0 (by decide)) rfl (hI7.1 0 _) rfl rfl t_903 t_904 t_905 t_14 t_906 rfl (by decide +kernel) rfl rfl ⟨Nat.le_of_ble_eq_true rfl, Nat.le_of_ble_eq_true rfl⟩ hl.1 rfl (lv_room (Nat.le_of_ble_eq_true rfl)) dL_law_389 hc0 (fun H locs hW => ?_)
        refine lv_icmp_eq (tgt := 736) hx hb dL_law_392 (by decide) (fun _ => ?_) (fun c9 => absurd rfl c9)
        refine W.widen (k := 1000 + 30 * (j + 1)) (n := 20000 + 1939 * (j + 1)) (by omega) (by omega) ?_
        exact next ad ns (uI M2 7 0 g2) H locs ls (by rw [uI_ne (by decide)]; exact hLI) h3 hW hl
      by_cases c17 : x = 7
      · refine x_tab (v := 7) c17 hx hb dL_law_62 (by decide) (by decide) rfl (by decide) (tgt := 397) ?_
        obtain ⟨r, h1, h2⟩ := hs_estimate M a1 hRel
        refine lv_aload_n hx hb dL_law_397 rfl (lv_at hl 1 rfl) ?_
        refine lv_aload_n hx hb dL_law_398 rfl (lv_at hl 0 rfl) ?_
        refine lv_iload_n hx hb dL_law_399 rfl (lv_at hl 3 rfl) ?_
        refine lv_iconst (v := 1) hx hb dL_law_400 (by decide) ?_
        refine lv_iadd hx hb dL_law_401 ?_
        refine va_sld hx hb hXs hbl hbA hW.2.2 hv1 dL_law_402 ?_
        rw [ha1]
        refine x_vi (n := 1) (As := [.int a1]) (rest := []) hx hb hml hts hown hK hW hA (f10_estimate_ok l D cy ad ns hI0 hI5 hI6 M a1 r h1) (hI6.2 0 (by decide)) rfl (hI6.1 0 _) rfl rfl t_512 t_513 t_514 t_1 t_515 rfl (by decide +kernel) rfl rfl ⟨Nat.le_of_ble_eq_true rfl, Nat.le_of_ble_eq_true rfl⟩ hl.1 rfl (lv_room (Nat.le_of_ble_eq_true rfl)) dL_law_403 hc0 (fun H locs hW => ?_)
        refine lv_aload_n hx hb dL_law_406 rfl (lv_at hl 2 rfl) ?_
        refine lv_aload_n hx hb dL_law_407 rfl (lv_at hl 0 rfl) ?_
        refine lv_iload_n hx hb dL_law_408 rfl (lv_at hl 3 rfl) ?_
        refine lv_iconst (v := 1) hx hb dL_law_409 (by decide) ?_
        refine lv_iadd hx hb dL_law_410 ?_
        refine va_sld hx hb hXs hbl hbA hW.2.2 hv1 dL_law_411 ?_
        rw [ha1]
        have hC := f11_estimate_ok l D cy ad ns M 7 0 hI7 (M 7 0) a1 r h2
        rw [uI_id] at hC
        refine x_vi (n := 1) (As := [.int a1]) (rest := [.int r]) hx hb hml hts hown hK hW hA hC (hI7.2 0 (by decide)) rfl (hI7.1 0 _) rfl rfl t_907 t_908 t_909 t_14 t_910 rfl (by decide +kernel) rfl rfl ⟨Nat.le_of_ble_eq_true rfl, Nat.le_of_ble_eq_true rfl⟩ hl.1 rfl (lv_room (Nat.le_of_ble_eq_true rfl)) dL_law_412 hc0 (fun H locs hW => ?_)
        refine lv_icmp_eq (tgt := 736) hx hb dL_law_415 (by decide) (fun _ => ?_) (fun c9 => absurd rfl c9)
        refine W.widen (k := 1000 + 30 * (j + 1)) (n := 20000 + 1939 * (j + 1)) (by omega) (by omega) ?_
        exact next ad ns M H locs ls (by exact hLI) hRel hW hl
      by_cases c18 : x = 8
      · refine x_tab (v := 8) c18 hx hb dL_law_62 (by decide) (by decide) rfl (by decide) (tgt := 420) ?_
        obtain ⟨r, h1, h2⟩ := hs_counter M a1 a2 hRel
        refine lv_aload_n hx hb dL_law_420 rfl (lv_at hl 1 rfl) ?_
        refine lv_aload_n hx hb dL_law_421 rfl (lv_at hl 0 rfl) ?_
        refine lv_iload_n hx hb dL_law_422 rfl (lv_at hl 3 rfl) ?_
        refine lv_iconst (v := 1) hx hb dL_law_423 (by decide) ?_
        refine lv_iadd hx hb dL_law_424 ?_
        refine va_sld hx hb hXs hbl hbA hW.2.2 hv1 dL_law_425 ?_
        rw [ha1]
        refine lv_aload_n hx hb dL_law_426 rfl (lv_at hl 0 rfl) ?_
        refine lv_iload_n hx hb dL_law_427 rfl (lv_at hl 3 rfl) ?_
        refine lv_iconst (v := 2) hx hb dL_law_428 (by decide) ?_
        refine lv_iadd hx hb dL_law_429 ?_
        refine va_sld hx hb hXs hbl hbA hW.2.2 hv2 dL_law_430 ?_
        rw [ha2]
        refine x_vi (n := 2) (As := [.int a1, .int a2]) (rest := []) hx hb hml hts hown hK hW hA (f10_counter_ok l D cy ad ns hI0 hI5 hI6 M a1 a2 r h1) (hI6.2 0 (by decide)) rfl (hI6.1 0 _) rfl rfl t_516 t_517 t_518 t_1 t_519 rfl (by decide +kernel) rfl rfl ⟨Nat.le_of_ble_eq_true rfl, Nat.le_of_ble_eq_true rfl⟩ hl.1 rfl (lv_room (Nat.le_of_ble_eq_true rfl)) dL_law_431 hc0 (fun H locs hW => ?_)
        refine lv_aload_n hx hb dL_law_434 rfl (lv_at hl 2 rfl) ?_
        refine lv_aload_n hx hb dL_law_435 rfl (lv_at hl 0 rfl) ?_
        refine lv_iload_n hx hb dL_law_436 rfl (lv_at hl 3 rfl) ?_
        refine lv_iconst (v := 1) hx hb dL_law_437 (by decide) ?_
        refine lv_iadd hx hb dL_law_438 ?_
        refine va_sld hx hb hXs hbl hbA hW.2.2 hv1 dL_law_439 ?_
        rw [ha1]
        refine lv_aload_n hx hb dL_law_440 rfl (lv_at hl 0 rfl) ?_
        refine lv_iload_n hx hb dL_law_441 rfl (lv_at hl 3 rfl) ?_
        refine lv_iconst (v := 2) hx hb dL_law_442 (by decide) ?_
        refine lv_iadd hx hb dL_law_443 ?_
        refine va_sld hx hb hXs hbl hbA hW.2.2 hv2 dL_law_444 ?_
        rw [ha2]
        have hC := f11_counter_ok l D cy ad ns M 7 0 hI7 (M 7 0) a1 a2 r h2
        rw [uI_id] at hC
        refine x_vi (n := 2) (As := [.int a1, .int a2]) (rest := [.int r]) hx hb hml hts hown hK hW hA hC (hI7.2 0 (by decide)) rfl (hI7.1 0 _) rfl rfl t_911 t_912 t_913 t_14 t_914 rfl (by decide +kernel) rfl rfl ⟨Nat.le_of_ble_eq_true rfl, Nat.le_of_ble_eq_true rfl⟩ hl.1 rfl (lv_room (Nat.le_of_ble_eq_true rfl)) dL_law_445 hc0 (fun H locs hW => ?_)
        refine lv_icmp_eq (tgt := 736) hx hb dL_law_448 (by decide) (fun _ => ?_) (fun c9 => absurd rfl c9)
        refine W.widen (k := 1000 + 30 * (j + 1)) (n := 20000 + 1939 * (j + 1)) (by omega) (by omega) ?_
        exact next ad ns M H locs ls (by exact hLI) hRel hW hl
      by_cases c19 : x = 9
      · refine x_tab (v := 9) c19 hx hb dL_law_62 (by decide) (by decide) rfl (by decide) (tgt := 453) ?_
        obtain ⟨r, h1, h2⟩ := hs_bit M a1 hRel
        refine lv_aload_n hx hb dL_law_453 rfl (lv_at hl 1 rfl) ?_
        refine lv_aload_n hx hb dL_law_454 rfl (lv_at hl 0 rfl) ?_
        refine lv_iload_n hx hb dL_law_455 rfl (lv_at hl 3 rfl) ?_
        refine lv_iconst (v := 1) hx hb dL_law_456 (by decide) ?_
        refine lv_iadd hx hb dL_law_457 ?_
        refine va_sld hx hb hXs hbl hbA hW.2.2 hv1 dL_law_458 ?_
        rw [ha1]
        refine x_vi (n := 1) (As := [.int a1]) (rest := []) hx hb hml hts hown hK hW hA (f10_bit_ok l D cy ad ns hI0 hI5 hI6 M a1 r h1) (hI6.2 0 (by decide)) rfl (hI6.1 0 _) rfl rfl t_520 t_521 t_522 t_1 t_523 rfl (by decide +kernel) rfl rfl ⟨Nat.le_of_ble_eq_true rfl, Nat.le_of_ble_eq_true rfl⟩ hl.1 rfl (lv_room (Nat.le_of_ble_eq_true rfl)) dL_law_459 hc0 (fun H locs hW => ?_)
        refine lv_aload_n hx hb dL_law_462 rfl (lv_at hl 2 rfl) ?_
        refine lv_aload_n hx hb dL_law_463 rfl (lv_at hl 0 rfl) ?_
        refine lv_iload_n hx hb dL_law_464 rfl (lv_at hl 3 rfl) ?_
        refine lv_iconst (v := 1) hx hb dL_law_465 (by decide) ?_
        refine lv_iadd hx hb dL_law_466 ?_
        refine va_sld hx hb hXs hbl hbA hW.2.2 hv1 dL_law_467 ?_
        rw [ha1]
        have hC := f11_bit_ok l D cy ad ns M 7 0 hI7 (M 7 0) a1 r h2
        rw [uI_id] at hC
        refine x_vi (n := 1) (As := [.int a1]) (rest := [.int r]) hx hb hml hts hown hK hW hA hC (hI7.2 0 (by decide)) rfl (hI7.1 0 _) rfl rfl t_915 t_916 t_917 t_14 t_918 rfl (by decide +kernel) rfl rfl ⟨Nat.le_of_ble_eq_true rfl, Nat.le_of_ble_eq_true rfl⟩ hl.1 rfl (lv_room (Nat.le_of_ble_eq_true rfl)) dL_law_468 hc0 (fun H locs hW => ?_)
        refine lv_icmp_eq (tgt := 736) hx hb dL_law_471 (by decide) (fun _ => ?_) (fun c9 => absurd rfl c9)
        refine W.widen (k := 1000 + 30 * (j + 1)) (n := 20000 + 1939 * (j + 1)) (by omega) (by omega) ?_
        exact next ad ns M H locs ls (by exact hLI) hRel hW hl
      by_cases c20 : x = 10
      · refine x_tab (v := 10) c20 hx hb dL_law_62 (by decide) (by decide) rfl (by decide) (tgt := 476) ?_
        obtain ⟨r, M2, g2, h1, hfl, h2, h3⟩ := hs_remove M a1 hRel
        refine lv_aload_n hx hb dL_law_476 rfl (lv_at hl 1 rfl) ?_
        refine lv_aload_n hx hb dL_law_477 rfl (lv_at hl 0 rfl) ?_
        refine lv_iload_n hx hb dL_law_478 rfl (lv_at hl 3 rfl) ?_
        refine lv_iconst (v := 1) hx hb dL_law_479 (by decide) ?_
        refine lv_iadd hx hb dL_law_480 ?_
        refine va_sld hx hb hXs hbl hbA hW.2.2 hv1 dL_law_481 ?_
        rw [ha1]
        refine x_vi (n := 1) (As := [.int a1]) (rest := []) hx hb hml hts hown hK hW hA (f10_remove_ok l D cy ad ns hI0 hI5 hI6 M a1 r M2 h1) (hI6.2 0 (by decide)) rfl (hI6.1 0 _) rfl rfl t_524 t_525 t_526 t_1 t_527 rfl (by decide +kernel) rfl rfl ⟨Nat.le_of_ble_eq_true rfl, Nat.le_of_ble_eq_true rfl⟩ hl.1 rfl (lv_room (Nat.le_of_ble_eq_true rfl)) dL_law_482 hc0 (fun H locs hW => ?_)
        have hLI : LI cy ad ns (M2 6 0 1) := by rw [hfl]; exact hLI
        refine lv_aload_n hx hb dL_law_485 rfl (lv_at hl 2 rfl) ?_
        refine lv_aload_n hx hb dL_law_486 rfl (lv_at hl 0 rfl) ?_
        refine lv_iload_n hx hb dL_law_487 rfl (lv_at hl 3 rfl) ?_
        refine lv_iconst (v := 1) hx hb dL_law_488 (by decide) ?_
        refine lv_iadd hx hb dL_law_489 ?_
        refine va_sld hx hb hXs hbl hbA hW.2.2 hv1 dL_law_490 ?_
        rw [ha1]
        have hC := f11_remove_ok l D cy ad ns M2 7 0 hI7 (M2 7 0) a1 r g2 h2
        rw [uI_id] at hC
        refine x_vi (n := 1) (As := [.int a1]) (rest := [.int r]) hx hb hml hts hown hK hW hA hC (hI7.2 0 (by decide)) rfl (hI7.1 0 _) rfl rfl t_919 t_920 t_921 t_14 t_922 rfl (by decide +kernel) rfl rfl ⟨Nat.le_of_ble_eq_true rfl, Nat.le_of_ble_eq_true rfl⟩ hl.1 rfl (lv_room (Nat.le_of_ble_eq_true rfl)) dL_law_491 hc0 (fun H locs hW => ?_)
        refine lv_icmp_eq (tgt := 736) hx hb dL_law_494 (by decide) (fun _ => ?_) (fun c9 => absurd rfl c9)
        refine W.widen (k := 1000 + 30 * (j + 1)) (n := 20000 + 1939 * (j + 1)) (by omega) (by omega) ?_
        exact next ad ns (uI M2 7 0 g2) H locs ls (by rw [uI_ne (by decide)]; exact hLI) h3 hW hl
      by_cases c21 : x = 11
      · refine x_tab (v := 11) c21 hx hb dL_law_62 (by decide) (by decide) rfl (by decide) (tgt := 499) ?_
        obtain ⟨r, h1, h2⟩ := hs_where M a1 hRel
        refine lv_aload_n hx hb dL_law_499 rfl (lv_at hl 1 rfl) ?_
        refine lv_aload_n hx hb dL_law_500 rfl (lv_at hl 0 rfl) ?_
        refine lv_iload_n hx hb dL_law_501 rfl (lv_at hl 3 rfl) ?_
        refine lv_iconst (v := 1) hx hb dL_law_502 (by decide) ?_
        refine lv_iadd hx hb dL_law_503 ?_
        refine va_sld hx hb hXs hbl hbA hW.2.2 hv1 dL_law_504 ?_
        rw [ha1]
        refine x_vi (n := 1) (As := [.int a1]) (rest := []) hx hb hml hts hown hK hW hA (f10_where_ok l D cy ad ns hI0 hI5 hI6 M a1 r h1) (hI6.2 0 (by decide)) rfl (hI6.1 0 _) rfl rfl t_529 t_530 t_531 t_1 t_532 rfl (by decide +kernel) rfl rfl ⟨Nat.le_of_ble_eq_true rfl, Nat.le_of_ble_eq_true rfl⟩ hl.1 rfl (lv_room (Nat.le_of_ble_eq_true rfl)) dL_law_505 hc0 (fun H locs hW => ?_)
        refine lv_aload_n hx hb dL_law_508 rfl (lv_at hl 2 rfl) ?_
        refine lv_aload_n hx hb dL_law_509 rfl (lv_at hl 0 rfl) ?_
        refine lv_iload_n hx hb dL_law_510 rfl (lv_at hl 3 rfl) ?_
        refine lv_iconst (v := 1) hx hb dL_law_511 (by decide) ?_
        refine lv_iadd hx hb dL_law_512 ?_
        refine va_sld hx hb hXs hbl hbA hW.2.2 hv1 dL_law_513 ?_
        rw [ha1]
        have hC := f11_where_ok l D cy ad ns M 7 0 hI7 (M 7 0) a1 r h2
        rw [uI_id] at hC
        refine x_vi (n := 1) (As := [.int a1]) (rest := [.int r]) hx hb hml hts hown hK hW hA hC (hI7.2 0 (by decide)) rfl (hI7.1 0 _) rfl rfl t_923 t_924 t_925 t_14 t_926 rfl (by decide +kernel) rfl rfl ⟨Nat.le_of_ble_eq_true rfl, Nat.le_of_ble_eq_true rfl⟩ hl.1 rfl (lv_room (Nat.le_of_ble_eq_true rfl)) dL_law_514 hc0 (fun H locs hW => ?_)
        refine lv_icmp_eq (tgt := 736) hx hb dL_law_517 (by decide) (fun _ => ?_) (fun c9 => absurd rfl c9)
        refine W.widen (k := 1000 + 30 * (j + 1)) (n := 20000 + 1939 * (j + 1)) (by omega) (by omega) ?_
        exact next ad ns M H locs ls (by exact hLI) hRel hW hl
      by_cases c22 : x = 12
      · refine x_tab (v := 12) c22 hx hb dL_law_62 (by decide) (by decide) rfl (by decide) (tgt := 522) ?_
        obtain ⟨r, h1, h2⟩ := hs_key M a1 a2 hRel
        refine lv_aload_n hx hb dL_law_522 rfl (lv_at hl 1 rfl) ?_
        refine lv_aload_n hx hb dL_law_523 rfl (lv_at hl 0 rfl) ?_
        refine lv_iload_n hx hb dL_law_524 rfl (lv_at hl 3 rfl) ?_
        refine lv_iconst (v := 1) hx hb dL_law_525 (by decide) ?_
        refine lv_iadd hx hb dL_law_526 ?_
        refine va_sld hx hb hXs hbl hbA hW.2.2 hv1 dL_law_527 ?_
        rw [ha1]
        refine lv_aload_n hx hb dL_law_528 rfl (lv_at hl 0 rfl) ?_
        refine lv_iload_n hx hb dL_law_529 rfl (lv_at hl 3 rfl) ?_
        refine lv_iconst (v := 2) hx hb dL_law_530 (by decide) ?_
        refine lv_iadd hx hb dL_law_531 ?_
        refine va_sld hx hb hXs hbl hbA hW.2.2 hv2 dL_law_532 ?_
        rw [ha2]
        refine x_vi (n := 2) (As := [.int a1, .int a2]) (rest := []) hx hb hml hts hown hK hW hA (f10_key_ok l D cy ad ns hI0 hI5 hI6 M a1 a2 r h1) (hI6.2 0 (by decide)) rfl (hI6.1 0 _) rfl rfl t_533 t_534 t_535 t_1 t_536 rfl (by decide +kernel) rfl rfl ⟨Nat.le_of_ble_eq_true rfl, Nat.le_of_ble_eq_true rfl⟩ hl.1 rfl (lv_room (Nat.le_of_ble_eq_true rfl)) dL_law_533 hc0 (fun H locs hW => ?_)
        refine lv_aload_n hx hb dL_law_536 rfl (lv_at hl 2 rfl) ?_
        refine lv_aload_n hx hb dL_law_537 rfl (lv_at hl 0 rfl) ?_
        refine lv_iload_n hx hb dL_law_538 rfl (lv_at hl 3 rfl) ?_
        refine lv_iconst (v := 1) hx hb dL_law_539 (by decide) ?_
        refine lv_iadd hx hb dL_law_540 ?_
        refine va_sld hx hb hXs hbl hbA hW.2.2 hv1 dL_law_541 ?_
        rw [ha1]
        refine lv_aload_n hx hb dL_law_542 rfl (lv_at hl 0 rfl) ?_
        refine lv_iload_n hx hb dL_law_543 rfl (lv_at hl 3 rfl) ?_
        refine lv_iconst (v := 2) hx hb dL_law_544 (by decide) ?_
        refine lv_iadd hx hb dL_law_545 ?_
        refine va_sld hx hb hXs hbl hbA hW.2.2 hv2 dL_law_546 ?_
        rw [ha2]
        have hC := f11_key_ok l D cy ad ns M 7 0 hI7 (M 7 0) a1 a2 r h2
        rw [uI_id] at hC
        refine x_vi (n := 2) (As := [.int a1, .int a2]) (rest := [.int r]) hx hb hml hts hown hK hW hA hC (hI7.2 0 (by decide)) rfl (hI7.1 0 _) rfl rfl t_927 t_928 t_929 t_14 t_930 rfl (by decide +kernel) rfl rfl ⟨Nat.le_of_ble_eq_true rfl, Nat.le_of_ble_eq_true rfl⟩ hl.1 rfl (lv_room (Nat.le_of_ble_eq_true rfl)) dL_law_547 hc0 (fun H locs hW => ?_)
        refine lv_icmp_eq (tgt := 736) hx hb dL_law_550 (by decide) (fun _ => ?_) (fun c9 => absurd rfl c9)
        refine W.widen (k := 1000 + 30 * (j + 1)) (n := 20000 + 1939 * (j + 1)) (by omega) (by omega) ?_
        exact next ad ns M H locs ls (by exact hLI) hRel hW hl
      by_cases c23 : x = 13
      · refine x_tab (v := 13) c23 hx hb dL_law_62 (by decide) (by decide) rfl (by decide) (tgt := 555) ?_
        obtain ⟨r, h1, h2⟩ := hs_about M a1 hRel
        refine lv_aload_n hx hb dL_law_555 rfl (lv_at hl 1 rfl) ?_
        refine lv_aload_n hx hb dL_law_556 rfl (lv_at hl 0 rfl) ?_
        refine lv_iload_n hx hb dL_law_557 rfl (lv_at hl 3 rfl) ?_
        refine lv_iconst (v := 1) hx hb dL_law_558 (by decide) ?_
        refine lv_iadd hx hb dL_law_559 ?_
        refine va_sld hx hb hXs hbl hbA hW.2.2 hv1 dL_law_560 ?_
        rw [ha1]
        refine x_vi (n := 1) (As := [.int a1]) (rest := []) hx hb hml hts hown hK hW hA (f10_about_ok l D cy ad ns hI0 hI5 hI6 M a1 r h1) (hI6.2 0 (by decide)) rfl (hI6.1 0 _) rfl rfl t_538 t_539 t_540 t_1 t_541 rfl (by decide +kernel) rfl rfl ⟨Nat.le_of_ble_eq_true rfl, Nat.le_of_ble_eq_true rfl⟩ hl.1 rfl (lv_room (Nat.le_of_ble_eq_true rfl)) dL_law_561 hc0 (fun H locs hW => ?_)
        refine lv_aload_n hx hb dL_law_564 rfl (lv_at hl 2 rfl) ?_
        refine lv_aload_n hx hb dL_law_565 rfl (lv_at hl 0 rfl) ?_
        refine lv_iload_n hx hb dL_law_566 rfl (lv_at hl 3 rfl) ?_
        refine lv_iconst (v := 1) hx hb dL_law_567 (by decide) ?_
        refine lv_iadd hx hb dL_law_568 ?_
        refine va_sld hx hb hXs hbl hbA hW.2.2 hv1 dL_law_569 ?_
        rw [ha1]
        have hC := f11_about_ok l D cy ad ns M 7 0 hI7 (M 7 0) a1 r h2
        rw [uI_id] at hC
        refine x_vi (n := 1) (As := [.int a1]) (rest := [.int r]) hx hb hml hts hown hK hW hA hC (hI7.2 0 (by decide)) rfl (hI7.1 0 _) rfl rfl t_931 t_932 t_933 t_14 t_934 rfl (by decide +kernel) rfl rfl ⟨Nat.le_of_ble_eq_true rfl, Nat.le_of_ble_eq_true rfl⟩ hl.1 rfl (lv_room (Nat.le_of_ble_eq_true rfl)) dL_law_570 hc0 (fun H locs hW => ?_)
        refine lv_icmp_eq (tgt := 736) hx hb dL_law_573 (by decide) (fun _ => ?_) (fun c9 => absurd rfl c9)
        refine W.widen (k := 1000 + 30 * (j + 1)) (n := 20000 + 1939 * (j + 1)) (by omega) (by omega) ?_
        exact next ad ns M H locs ls (by exact hLI) hRel hW hl
      by_cases c24 : x = 14
      · refine x_tab (v := 14) c24 hx hb dL_law_62 (by decide) (by decide) rfl (by decide) (tgt := 578) ?_
        obtain ⟨r, h1, h2⟩ := hs_trace M a1 hRel
        refine lv_aload_n hx hb dL_law_578 rfl (lv_at hl 1 rfl) ?_
        refine lv_aload_n hx hb dL_law_579 rfl (lv_at hl 0 rfl) ?_
        refine lv_iload_n hx hb dL_law_580 rfl (lv_at hl 3 rfl) ?_
        refine lv_iconst (v := 1) hx hb dL_law_581 (by decide) ?_
        refine lv_iadd hx hb dL_law_582 ?_
        refine va_sld hx hb hXs hbl hbA hW.2.2 hv1 dL_law_583 ?_
        rw [ha1]
        refine x_vi (n := 1) (As := [.int a1]) (rest := []) hx hb hml hts hown hK hW hA (f10_trace_ok l D cy ad ns hI0 hI5 hI6 M a1 r h1) (hI6.2 0 (by decide)) rfl (hI6.1 0 _) rfl rfl t_551 t_552 t_553 t_1 t_554 rfl (by decide +kernel) rfl rfl ⟨Nat.le_of_ble_eq_true rfl, Nat.le_of_ble_eq_true rfl⟩ hl.1 rfl (lv_room (Nat.le_of_ble_eq_true rfl)) dL_law_584 hc0 (fun H locs hW => ?_)
        refine lv_aload_n hx hb dL_law_587 rfl (lv_at hl 2 rfl) ?_
        refine lv_aload_n hx hb dL_law_588 rfl (lv_at hl 0 rfl) ?_
        refine lv_iload_n hx hb dL_law_589 rfl (lv_at hl 3 rfl) ?_
        refine lv_iconst (v := 1) hx hb dL_law_590 (by decide) ?_
        refine lv_iadd hx hb dL_law_591 ?_
        refine va_sld hx hb hXs hbl hbA hW.2.2 hv1 dL_law_592 ?_
        rw [ha1]
        have hC := f11_trace_ok l D cy ad ns M 7 0 hI7 (M 7 0) a1 r h2
        rw [uI_id] at hC
        refine x_vi (n := 1) (As := [.int a1]) (rest := [.int r]) hx hb hml hts hown hK hW hA hC (hI7.2 0 (by decide)) rfl (hI7.1 0 _) rfl rfl t_935 t_936 t_937 t_14 t_938 rfl (by decide +kernel) rfl rfl ⟨Nat.le_of_ble_eq_true rfl, Nat.le_of_ble_eq_true rfl⟩ hl.1 rfl (lv_room (Nat.le_of_ble_eq_true rfl)) dL_law_593 hc0 (fun H locs hW => ?_)
        refine lv_icmp_eq (tgt := 736) hx hb dL_law_596 (by decide) (fun _ => ?_) (fun c9 => absurd rfl c9)
        refine W.widen (k := 1000 + 30 * (j + 1)) (n := 20000 + 1939 * (j + 1)) (by omega) (by omega) ?_
        exact next ad ns M H locs ls (by exact hLI) hRel hW hl
      by_cases c25 : x = 15
      · refine x_tab (v := 15) c25 hx hb dL_law_62 (by decide) (by decide) rfl (by decide) (tgt := 601) ?_
        obtain ⟨r, M2, g2, h1, hfl, h2, h3⟩ := hs_replay M a1 a2 a3 a4 hRel
        refine lv_aload_n hx hb dL_law_601 rfl (lv_at hl 1 rfl) ?_
        refine lv_aload_n hx hb dL_law_602 rfl (lv_at hl 0 rfl) ?_
        refine lv_iload_n hx hb dL_law_603 rfl (lv_at hl 3 rfl) ?_
        refine lv_iconst (v := 1) hx hb dL_law_604 (by decide) ?_
        refine lv_iadd hx hb dL_law_605 ?_
        refine va_sld hx hb hXs hbl hbA hW.2.2 hv1 dL_law_606 ?_
        rw [ha1]
        refine lv_aload_n hx hb dL_law_607 rfl (lv_at hl 0 rfl) ?_
        refine lv_iload_n hx hb dL_law_608 rfl (lv_at hl 3 rfl) ?_
        refine lv_iconst (v := 2) hx hb dL_law_609 (by decide) ?_
        refine lv_iadd hx hb dL_law_610 ?_
        refine va_sld hx hb hXs hbl hbA hW.2.2 hv2 dL_law_611 ?_
        rw [ha2]
        refine lv_aload_n hx hb dL_law_612 rfl (lv_at hl 0 rfl) ?_
        refine lv_iload_n hx hb dL_law_613 rfl (lv_at hl 3 rfl) ?_
        refine lv_iconst (v := 3) hx hb dL_law_614 (by decide) ?_
        refine lv_iadd hx hb dL_law_615 ?_
        refine va_sld hx hb hXs hbl hbA hW.2.2 hv3 dL_law_616 ?_
        rw [ha3]
        refine lv_aload_n hx hb dL_law_617 rfl (lv_at hl 0 rfl) ?_
        refine lv_iload_n hx hb dL_law_618 rfl (lv_at hl 3 rfl) ?_
        refine lv_iconst (v := 4) hx hb dL_law_619 (by decide) ?_
        refine lv_iadd hx hb dL_law_620 ?_
        refine va_sld hx hb hXs hbl hbA hW.2.2 hv4 dL_law_621 ?_
        rw [ha4]
        refine x_vxi (n := 4) (As := [.int a1, .int a2, .int a3, .int a4]) (rest := []) hx hb hml hts hown hK hX hW hA (f10_replay_ok l D cy ad ns hI0 hI5 hI6 M a1 a2 a3 a4 r M2 h1) (hI6.2 0 (by decide)) rfl (hI6.1 0 _) rfl rfl t_559 t_560 t_561 t_1 t_562 rfl (by decide +kernel) rfl rfl ⟨Nat.le_of_ble_eq_true rfl, Nat.le_of_ble_eq_true rfl⟩ hl.1 rfl (lv_room (Nat.le_of_ble_eq_true rfl)) dL_law_622 hc0 (fun H locs hW => ?_)
        have hLI : LI cy ad ns (M2 6 0 1) := by rw [hfl]; exact hLI
        refine lv_aload_n hx hb dL_law_625 rfl (lv_at hl 2 rfl) ?_
        refine lv_aload_n hx hb dL_law_626 rfl (lv_at hl 0 rfl) ?_
        refine lv_iload_n hx hb dL_law_627 rfl (lv_at hl 3 rfl) ?_
        refine lv_iconst (v := 1) hx hb dL_law_628 (by decide) ?_
        refine lv_iadd hx hb dL_law_629 ?_
        refine va_sld hx hb hXs hbl hbA hW.2.2 hv1 dL_law_630 ?_
        rw [ha1]
        refine lv_aload_n hx hb dL_law_631 rfl (lv_at hl 0 rfl) ?_
        refine lv_iload_n hx hb dL_law_632 rfl (lv_at hl 3 rfl) ?_
        refine lv_iconst (v := 2) hx hb dL_law_633 (by decide) ?_
        refine lv_iadd hx hb dL_law_634 ?_
        refine va_sld hx hb hXs hbl hbA hW.2.2 hv2 dL_law_635 ?_
        rw [ha2]
        refine lv_aload_n hx hb dL_law_636 rfl (lv_at hl 0 rfl) ?_
        refine lv_iload_n hx hb dL_law_637 rfl (lv_at hl 3 rfl) ?_
        refine lv_iconst (v := 3) hx hb dL_law_638 (by decide) ?_
        refine lv_iadd hx hb dL_law_639 ?_
        refine va_sld hx hb hXs hbl hbA hW.2.2 hv3 dL_law_640 ?_
        rw [ha3]
        refine lv_aload_n hx hb dL_law_641 rfl (lv_at hl 0 rfl) ?_
        refine lv_iload_n hx hb dL_law_642 rfl (lv_at hl 3 rfl) ?_
        refine lv_iconst (v := 4) hx hb dL_law_643 (by decide) ?_
        refine lv_iadd hx hb dL_law_644 ?_
        refine va_sld hx hb hXs hbl hbA hW.2.2 hv4 dL_law_645 ?_
        rw [ha4]
        have hC := f11_replay_ok l D cy ad ns M2 7 0 hI7 (M2 7 0) a1 a2 a3 a4 r g2 h2
        rw [uI_id] at hC
        refine x_vi (n := 4) (As := [.int a1, .int a2, .int a3, .int a4]) (rest := [.int r]) hx hb hml hts hown hK hW hA hC (hI7.2 0 (by decide)) rfl (hI7.1 0 _) rfl rfl t_939 t_940 t_941 t_14 t_942 rfl (by decide +kernel) rfl rfl ⟨Nat.le_of_ble_eq_true rfl, Nat.le_of_ble_eq_true rfl⟩ hl.1 rfl (lv_room (Nat.le_of_ble_eq_true rfl)) dL_law_646 hc0 (fun H locs hW => ?_)
        refine lv_icmp_eq (tgt := 736) hx hb dL_law_649 (by decide) (fun _ => ?_) (fun c9 => absurd rfl c9)
        refine W.widen (k := 1000 + 30 * (j + 1)) (n := 20000 + 1939 * (j + 1)) (by omega) (by omega) ?_
        exact next ad ns (uI M2 7 0 g2) H locs ls (by rw [uI_ne (by decide)]; exact hLI) h3 hW hl
      by_cases c26 : x = 16
      · refine x_tab (v := 16) c26 hx hb dL_law_62 (by decide) (by decide) rfl (by decide) (tgt := 654) ?_
        obtain ⟨r, h1, h2⟩ := hs_kept M a1 hRel
        refine lv_aload_n hx hb dL_law_654 rfl (lv_at hl 1 rfl) ?_
        refine lv_aload_n hx hb dL_law_655 rfl (lv_at hl 0 rfl) ?_
        refine lv_iload_n hx hb dL_law_656 rfl (lv_at hl 3 rfl) ?_
        refine lv_iconst (v := 1) hx hb dL_law_657 (by decide) ?_
        refine lv_iadd hx hb dL_law_658 ?_
        refine va_sld hx hb hXs hbl hbA hW.2.2 hv1 dL_law_659 ?_
        rw [ha1]
        refine x_vi (n := 1) (As := [.int a1]) (rest := []) hx hb hml hts hown hK hW hA (f10_kept_ok l D cy ad ns hI0 hI5 hI6 M a1 r h1) (hI6.2 0 (by decide)) rfl (hI6.1 0 _) rfl rfl t_658 t_659 t_660 t_1 t_661 rfl (by decide +kernel) rfl rfl ⟨Nat.le_of_ble_eq_true rfl, Nat.le_of_ble_eq_true rfl⟩ hl.1 rfl (lv_room (Nat.le_of_ble_eq_true rfl)) dL_law_660 hc0 (fun H locs hW => ?_)
        refine lv_aload_n hx hb dL_law_663 rfl (lv_at hl 2 rfl) ?_
        refine lv_aload_n hx hb dL_law_664 rfl (lv_at hl 0 rfl) ?_
        refine lv_iload_n hx hb dL_law_665 rfl (lv_at hl 3 rfl) ?_
        refine lv_iconst (v := 1) hx hb dL_law_666 (by decide) ?_
        refine lv_iadd hx hb dL_law_667 ?_
        refine va_sld hx hb hXs hbl hbA hW.2.2 hv1 dL_law_668 ?_
        rw [ha1]
        have hC := f11_kept_ok l D cy ad ns M 7 0 hI7 (M 7 0) a1 r h2
        rw [uI_id] at hC
        refine x_vi (n := 1) (As := [.int a1]) (rest := [.int r]) hx hb hml hts hown hK hW hA hC (hI7.2 0 (by decide)) rfl (hI7.1 0 _) rfl rfl t_987 t_988 t_989 t_14 t_990 rfl (by decide +kernel) rfl rfl ⟨Nat.le_of_ble_eq_true rfl, Nat.le_of_ble_eq_true rfl⟩ hl.1 rfl (lv_room (Nat.le_of_ble_eq_true rfl)) dL_law_669 hc0 (fun H locs hW => ?_)
        refine lv_icmp_eq (tgt := 736) hx hb dL_law_672 (by decide) (fun _ => ?_) (fun c9 => absurd rfl c9)
        refine W.widen (k := 1000 + 30 * (j + 1)) (n := 20000 + 1939 * (j + 1)) (by omega) (by omega) ?_
        exact next ad ns M H locs ls (by exact hLI) hRel hW hl
      by_cases c27 : x = 17
      · refine x_tab (v := 17) c27 hx hb dL_law_62 (by decide) (by decide) rfl (by decide) (tgt := 677) ?_
        rcases hs_save M a1 hRel with ⟨r, M2, g2, h1, hfl, h2, h3⟩ | ⟨hin, hk0, m3, m4, S2, g2, hf3, hf4, hf8, h2, h3⟩
        · skip
          refine lv_aload_n hx hb dL_law_677 rfl (lv_at hl 1 rfl) ?_
          refine lv_aload_n hx hb dL_law_678 rfl (lv_at hl 0 rfl) ?_
          refine lv_iload_n hx hb dL_law_679 rfl (lv_at hl 3 rfl) ?_
          refine lv_iconst (v := 1) hx hb dL_law_680 (by decide) ?_
          refine lv_iadd hx hb dL_law_681 ?_
          refine va_sld hx hb hXs hbl hbA hW.2.2 hv1 dL_law_682 ?_
          rw [ha1]
          refine x_vi (n := 1) (As := [.int a1]) (rest := []) hx hb hml hts hown hK hW hA (f10_save_ok l D cy ad ns hI0 hI5 hI6 M a1 r M2 hSv h1) (hI6.2 0 (by decide)) rfl (hI6.1 0 _) rfl rfl t_666 t_667 t_668 t_1 t_669 rfl (by decide +kernel) rfl rfl ⟨Nat.le_of_ble_eq_true rfl, Nat.le_of_ble_eq_true rfl⟩ hl.1 rfl (lv_room (Nat.le_of_ble_eq_true rfl)) dL_law_683 hc0 (fun H locs hW => ?_)
          have hLI : LI cy ad ns (M2 6 0 1) := by rw [hfl]; exact hLI
          refine lv_aload_n hx hb dL_law_686 rfl (lv_at hl 2 rfl) ?_
          refine lv_aload_n hx hb dL_law_687 rfl (lv_at hl 0 rfl) ?_
          refine lv_iload_n hx hb dL_law_688 rfl (lv_at hl 3 rfl) ?_
          refine lv_iconst (v := 1) hx hb dL_law_689 (by decide) ?_
          refine lv_iadd hx hb dL_law_690 ?_
          refine va_sld hx hb hXs hbl hbA hW.2.2 hv1 dL_law_691 ?_
          rw [ha1]
          have hC := f11_save_ok l D cy ad ns M2 7 0 hI7 (M2 7 0) a1 r g2 h2
          rw [uI_id] at hC
          refine x_vi (n := 1) (As := [.int a1]) (rest := [.int r]) hx hb hml hts hown hK hW hA hC (hI7.2 0 (by decide)) rfl (hI7.1 0 _) rfl rfl t_991 t_992 t_993 t_14 t_994 rfl (by decide +kernel) rfl rfl ⟨Nat.le_of_ble_eq_true rfl, Nat.le_of_ble_eq_true rfl⟩ hl.1 rfl (lv_room (Nat.le_of_ble_eq_true rfl)) dL_law_692 hc0 (fun H locs hW => ?_)
          refine lv_icmp_eq (tgt := 736) hx hb dL_law_695 (by decide) (fun _ => ?_) (fun c9 => absurd rfl c9)
          refine W.widen (k := 1000 + 30 * (j + 1)) (n := 20000 + 1939 * (j + 1)) (by omega) (by omega) ?_
          exact next ad ns (uI M2 7 0 g2) H locs ls (by rw [uI_ne (by decide)]; exact hLI) h3 hW hl
        · skip
          refine lv_aload_n hx hb dL_law_677 rfl (lv_at hl 1 rfl) ?_
          refine lv_aload_n hx hb dL_law_678 rfl (lv_at hl 0 rfl) ?_
          refine lv_iload_n hx hb dL_law_679 rfl (lv_at hl 3 rfl) ?_
          refine lv_iconst (v := 1) hx hb dL_law_680 (by decide) ?_
          refine lv_iadd hx hb dL_law_681 ?_
          refine va_sld hx hb hXs hbl hbA hW.2.2 hv1 dL_law_682 ?_
          rw [ha1]
          obtain ⟨q6, hq6⟩ := wl_get (cy := cy) (ad := ad) (M := M) (hI6.2 0 (by decide))
          rw [hI6.1] at hq6
          refine va_calli (va_runV (As := [.int a1]) (rest := []) ⟨hx, hb, hml, hown, hts⟩ (save_new l D cy ad ns hI0 hI6 M a1 hin hk0 _ rfl (hNs _ (vp_lt hin) hk0) h6 m3 hf3 m4 hf4 S2 hf8 H.size) ⟨callB_of 1 hts (x_good t_669) rfl rfl rfl (hts _ t_1) (hts _ t_666) (by decide +kernel) ⟨Nat.le_of_ble_eq_true rfl, Nat.le_of_ble_eq_true rfl⟩, hts _ t_667, hts _ t_668⟩ ⟨x_preX, va_recv hK hW.1 (ci := 9) rfl hq6, x_startX hK hX hW hA⟩ rfl rfl hl.1 rfl (lv_room (Nat.le_of_ble_eq_true rfl)) dL_law_683 hc1) hW.2.2 (fun q _ h => x_aw hW hA q h) (x_aw hW hA) (fun r2 ad2 U H1 locs1 ht hvm hw hB hz1 hk1 hS => ?_)
          obtain ⟨rfl, hae⟩ := hw
          have hLI := hLI.over (ad2 := ad2) (vp_lt hin) rfl
          obtain ⟨hJ0, hJ5, hJ6, hJ7, -, -, -⟩ := id hLI
          have hW : Wl D cy ad2 (ns ++ NSst (a1.toNatClampNeg + 1)) (fun q : Nat => s.heap.size ≤ q) s.heap (va_up (uC M 6 0 1 (upd (M 6 0 1) a1.toNatClampNeg 1)) (a1.toNatClampNeg + 1) S2) H1 locs1 := by
            exact ⟨by rw [← ht]; exact hB.1.1, hB.2.weaken (fun _ _ _ h => x_aw hW hA _ h), hS⟩
          have el : ad 6 = ad2 6 ∧ ad 7 = ad2 7 := ⟨hae 6 (by have := vp_lt hin; omega), hae 7 (by have := vp_lt hin; omega)⟩
          have hl : lv_has ls 4 [(0, .ref b), (1, .ref (ad2 6 0 0)), (2, .ref (ad2 7 0 0)), (3, .int (nI i))] := by rw [← el.1, ← el.2]; exact hl
          refine lv_aload_n hx hb dL_law_686 rfl (lv_at hl 2 rfl) ?_
          refine lv_aload_n hx hb dL_law_687 rfl (lv_at hl 0 rfl) ?_
          refine lv_iload_n hx hb dL_law_688 rfl (lv_at hl 3 rfl) ?_
          refine lv_iconst (v := 1) hx hb dL_law_689 (by decide) ?_
          refine lv_iadd hx hb dL_law_690 ?_
          refine va_sld hx hb hXs hbl hbA hW.2.2 hv1 dL_law_691 ?_
          rw [ha1]
          have h7 : (va_up (uC M 6 0 1 (upd (M 6 0 1) a1.toNatClampNeg 1)) (a1.toNatClampNeg + 1) S2) 7 0 = M 7 0 := by rw [va_up_ne _ _ (by have := vp_lt hin; omega), uC_grpne (by decide)]
          have hC := f11_save_ok l D cy ad2 (ns ++ NSst (a1.toNatClampNeg + 1)) (va_up (uC M 6 0 1 (upd (M 6 0 1) a1.toNatClampNeg 1)) (a1.toNatClampNeg + 1) S2) 7 0 hJ7 (M 7 0) a1 (M 0 0 0 3) g2 h2
          rw [uI_same h7] at hC
          refine x_vi (n := 1) (As := [.int a1]) (rest := [.int (M 0 0 0 3)]) hx hb hml hts hown hK hW hA hC (hJ7.2 0 (by decide)) rfl (hJ7.1 0 _) rfl rfl t_991 t_992 t_993 t_14 t_994 rfl (by decide +kernel) rfl rfl ⟨Nat.le_of_ble_eq_true rfl, Nat.le_of_ble_eq_true rfl⟩ hl.1 rfl (lv_room (Nat.le_of_ble_eq_true rfl)) dL_law_692 hc1 (fun H locs hW => ?_)
          refine lv_icmp_eq (tgt := 736) hx hb dL_law_695 (by decide) (fun _ => ?_) (fun c9 => absurd rfl c9)
          refine W.widen (k := 1000 + 30 * (j + 1)) (n := 20000 + 1939 * (j + 1)) (by omega) (by omega) ?_
          exact next ad2 (ns ++ NSst (a1.toNatClampNeg + 1)) (uI (va_up (uC M 6 0 1 (upd (M 6 0 1) a1.toNatClampNeg 1)) (a1.toNatClampNeg + 1) S2) 7 0 g2) H locs ls (by rw [uI_ne (by decide), show (va_up (uC M 6 0 1 (upd (M 6 0 1) a1.toNatClampNeg 1)) (a1.toNatClampNeg + 1) S2) 6 0 1 = upd (M 6 0 1) a1.toNatClampNeg 1 by rw [va_up_ne _ _ (by have := vp_lt hin; omega), uC_at]]; exact hLI) h3 hW hl
      by_cases c28 : x = 18
      · refine x_tab (v := 18) c28 hx hb dL_law_62 (by decide) (by decide) rfl (by decide) (tgt := 700) ?_
        obtain ⟨r, M2, g2, h1, hfl, h2, h3⟩ := hs_load M a1 hRel
        refine lv_aload_n hx hb dL_law_700 rfl (lv_at hl 1 rfl) ?_
        refine lv_aload_n hx hb dL_law_701 rfl (lv_at hl 0 rfl) ?_
        refine lv_iload_n hx hb dL_law_702 rfl (lv_at hl 3 rfl) ?_
        refine lv_iconst (v := 1) hx hb dL_law_703 (by decide) ?_
        refine lv_iadd hx hb dL_law_704 ?_
        refine va_sld hx hb hXs hbl hbA hW.2.2 hv1 dL_law_705 ?_
        rw [ha1]
        refine x_vi (n := 1) (As := [.int a1]) (rest := []) hx hb hml hts hown hK hW hA (f10_load_ok l D cy ad ns hI0 hI5 hI6 M a1 r M2 hSv h1) (hI6.2 0 (by decide)) rfl (hI6.1 0 _) rfl rfl t_699 t_700 t_701 t_1 t_702 rfl (by decide +kernel) rfl rfl ⟨Nat.le_of_ble_eq_true rfl, Nat.le_of_ble_eq_true rfl⟩ hl.1 rfl (lv_room (Nat.le_of_ble_eq_true rfl)) dL_law_706 hc0 (fun H locs hW => ?_)
        have hLI : LI cy ad ns (M2 6 0 1) := by rw [hfl]; exact hLI
        refine lv_aload_n hx hb dL_law_709 rfl (lv_at hl 2 rfl) ?_
        refine lv_aload_n hx hb dL_law_710 rfl (lv_at hl 0 rfl) ?_
        refine lv_iload_n hx hb dL_law_711 rfl (lv_at hl 3 rfl) ?_
        refine lv_iconst (v := 1) hx hb dL_law_712 (by decide) ?_
        refine lv_iadd hx hb dL_law_713 ?_
        refine va_sld hx hb hXs hbl hbA hW.2.2 hv1 dL_law_714 ?_
        rw [ha1]
        have hC := f11_load_ok l D cy ad ns M2 7 0 hI7 (M2 7 0) a1 r g2 h2
        rw [uI_id] at hC
        refine x_vi (n := 1) (As := [.int a1]) (rest := [.int r]) hx hb hml hts hown hK hW hA hC (hI7.2 0 (by decide)) rfl (hI7.1 0 _) rfl rfl t_995 t_996 t_997 t_14 t_998 rfl (by decide +kernel) rfl rfl ⟨Nat.le_of_ble_eq_true rfl, Nat.le_of_ble_eq_true rfl⟩ hl.1 rfl (lv_room (Nat.le_of_ble_eq_true rfl)) dL_law_715 hc0 (fun H locs hW => ?_)
        refine lv_icmp_eq (tgt := 736) hx hb dL_law_718 (by decide) (fun _ => ?_) (fun c9 => absurd rfl c9)
        refine W.widen (k := 1000 + 30 * (j + 1)) (n := 20000 + 1939 * (j + 1)) (by omega) (by omega) ?_
        exact next ad ns (uI M2 7 0 g2) H locs ls (by rw [uI_ne (by decide)]; exact hLI) h3 hW hl
      by_cases c29 : x = 19
      · refine x_tab (v := 19) c29 hx hb dL_law_62 (by decide) (by decide) rfl (by decide) (tgt := 723) ?_
        obtain ⟨r, h1, h2⟩ := hs_sound M hRel
        refine lv_aload_n hx hb dL_law_723 rfl (lv_at hl 1 rfl) ?_
        refine x_vi (n := 0) (As := []) (rest := []) hx hb hml hts hown hK hW hA (f10_sound_ok l D cy ad ns hI0 hI5 hI6 M r h1) (hI6.2 0 (by decide)) rfl (hI6.1 0 _) rfl rfl t_703 t_704 t_705 t_1 t_706 rfl (by decide +kernel) rfl rfl ⟨Nat.le_of_ble_eq_true rfl, Nat.le_of_ble_eq_true rfl⟩ hl.1 rfl (lv_room (Nat.le_of_ble_eq_true rfl)) dL_law_724 hc0 (fun H locs hW => ?_)
        refine lv_aload_n hx hb dL_law_727 rfl (lv_at hl 2 rfl) ?_
        have hC := f11_sound_ok l D cy ad ns M 7 0 hI7 (M 7 0) r h2
        rw [uI_id] at hC
        refine x_vi (n := 0) (As := []) (rest := [.int r]) hx hb hml hts hown hK hW hA hC (hI7.2 0 (by decide)) rfl (hI7.1 0 _) rfl rfl t_999 t_1000 t_1001 t_14 t_1002 rfl (by decide +kernel) rfl rfl ⟨Nat.le_of_ble_eq_true rfl, Nat.le_of_ble_eq_true rfl⟩ hl.1 rfl (lv_room (Nat.le_of_ble_eq_true rfl)) dL_law_728 hc0 (fun H locs hW => ?_)
        refine lv_icmp_eq (tgt := 736) hx hb dL_law_731 (by decide) (fun _ => ?_) (fun c9 => absurd rfl c9)
        refine W.widen (k := 1000 + 30 * (j + 1)) (n := 20000 + 1939 * (j + 1)) (by omega) (by omega) ?_
        exact next ad ns M H locs ls (by exact hLI) hRel hW hl
      refine lv_tableOut (tgt := 736) hx hb dL_law_62 (by have := ne_toInt (z := 0) (by decide) c10; have := ne_toInt (z := 1) (by decide) c11; have := ne_toInt (z := 2) (by decide) c12; have := ne_toInt (z := 3) (by decide) c13; have := ne_toInt (z := 4) (by decide) c14; have := ne_toInt (z := 5) (by decide) c15; have := ne_toInt (z := 6) (by decide) c16; have := ne_toInt (z := 7) (by decide) c17; have := ne_toInt (z := 8) (by decide) c18; have := ne_toInt (z := 9) (by decide) c19; have := ne_toInt (z := 10) (by decide) c20; have := ne_toInt (z := 11) (by decide) c21; have := ne_toInt (z := 12) (by decide) c22; have := ne_toInt (z := 13) (by decide) c23; have := ne_toInt (z := 14) (by decide) c24; have := ne_toInt (z := 15) (by decide) c25; have := ne_toInt (z := 16) (by decide) c26; have := ne_toInt (z := 17) (by decide) c27; have := ne_toInt (z := 18) (by decide) c28; have := ne_toInt (z := 19) (by decide) c29; omega) (by decide) ?_
      refine W.widen (k := 1000 + 30 * (j + 1)) (n := 20000 + 1939 * (j + 1)) (by omega) (by omega) ?_
      exact next ad ns M H locs ls hLI hRel hW hl
