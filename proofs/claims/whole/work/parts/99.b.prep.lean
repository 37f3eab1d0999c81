/-! the trace is played by the four rows -/
theorem pl_F {T : List Nat} {h : Sg} {e a n : Nat} (he : e ≤ T.length) (hT : T.length ≤ 300) (hb : ∀ j, j ∈ T → j < 100) (hG : RG T h) (hn1 : 1 ≤ n) (hn : n ≤ 30) : ∀ (d i n1 n2 : Nat) (v : Int32) (S : Ob) (m : Sg) (p : Nat) (L : Nat → List Nat), e - i = d → a ≤ i → i ≤ e → d < n1 → d < n2 → FS n p L S m → (∀ i, i < T.length → m 1 (1405 + i) = nI (gt T i)) →
    ∃ v2 S2 m2 p2 N, f3_playF_l30 h n1 (nI e) v (nI i) S = f3_playF_j69 h v2 S2 ∧ f11_balanced_l34 n2 (nI n) (nI e) v (nI i) m = some (v2, m2) ∧ FS n p2 N S2 m2 ∧ FG m m2 ∧ FR S S2 := by
  intro d
  induction d with
  | zero =>
    intro i n1 n2 v S m p L e1 h1 h2 hn1 hn2 hS hx
    obtain ⟨n1, rfl⟩ : ∃ k, n1 = k + 1 := ⟨n1 - 1, by omega⟩
    obtain ⟨n2, rfl⟩ : ∃ k, n2 = k + 1 := ⟨n2 - 1, by omega⟩
    have ei : i = e := by omega
    subst ei
    have hle : nI i ≤ nI i := by rw [lep (by omega) (by omega)]; omega
    refine ⟨v, S, m, p, L, ?_, ?_, hS, ⟨fun _ _ _ _ => rfl, fun _ _ => rfl⟩, fun _ _ _ => rfl⟩
    · show f3_playF_b30 h (f3_playF_l30 h n1) _ _ _ _ = _
      unfold f3_playF_b30
      exact if_pos hle
    · show f11_balanced_b34 (f11_balanced_l34 n2) _ _ _ _ _ = _
      unfold f11_balanced_b34
      exact if_pos hle
  | succ d ih =>
    intro i n1 n2 v S m p L e1 h1 h2 hn1 hn2 hS hx
    obtain ⟨n1, rfl⟩ : ∃ k, n1 = k + 1 := ⟨n1 - 1, by omega⟩
    obtain ⟨n2, rfl⟩ : ∃ k, n2 = k + 1 := ⟨n2 - 1, by omega⟩
    obtain ⟨r, p2, N, S2, m2, a1, a2, a3, a4, a5, a6⟩ := fr_step (a2 := nI i) (a3 := S 0 2 i) he hT hb hx (show i < e by omega) (by omega) hn hS
    obtain ⟨v2, S3, m3, p3, N3, b1, b2, b3, b4, b5⟩ := ih (i + 1) n1 n2 (v + nI r) S2 m2 p2 N (by omega) (by omega) (by omega) (by omega) (by omega) a4 (fun j hj => by rw [a6.1 1 (by decide) (by decide) (by decide)]; exact hx j hj)
    refine ⟨v2, S3, m3, p3, N3, ?_, ?_, b3, a6.t b4, a5.t b5⟩
    · show f3_playF_b30 h (f3_playF_l30 h n1) _ _ _ _ = _
      unfold f3_playF_b30
      rw [if_neg (show ¬ nI e ≤ nI i by rw [lep (by omega) (by omega)]; omega), pt_key hT hG (by omega), bd_e, rd_n (by omega) (by omega), a2, b2_e, z_1, nI_add]
      have hr : r = 0 ∨ r = 1 := by omega
      rcases hr with rfl | rfl
      · rw [if_pos (show nI 0 = 0 from rfl)]
        rw [show v + nI 0 = v from Int32.add_zero v] at b1
        exact b1
      · rw [if_neg (by decide)]
        exact b1
    · show f11_balanced_b34 (f11_balanced_l34 n2) _ _ _ _ _ = _
      rw [a3]
      exact b2
theorem kp_F {hB : Nat → Bool} {S0 : Ob} (hh : ∀ (S : Ob) k, S 7 = S0 7 → k < 100 → f2_holds S (nI k) = some (if hB k = true then 1 else 0)) (h30 : (KL hB 100).length ≤ 30) : ∀ (d i n : Nat) (S : Ob), 100 - i = d → i ≤ 100 → d < n → (∀ q, q ≠ 0 → S q = S0 q) → S 0 0 4 = nI (KL hB i).length → (∀ j, j < (KL hB i).length → S 0 4 j = nI (gt (KL hB i) j)) → ∃ S2, f3_keepFromF_l7 n (nI i) S = some S2 ∧ (∀ q, q ≠ 0 → S2 q = S0 q) ∧ S2 0 0 4 = nI (KL hB 100).length ∧ ∀ j, j < (KL hB 100).length → S2 0 4 j = nI (gt (KL hB 100) j) := by
  intro d
  induction d with
  | zero =>
    intro i n S e1 h1 hn h2 h3 h4
    obtain ⟨n, rfl⟩ : ∃ k, n = k + 1 := ⟨n - 1, by omega⟩
    have ei : i = 100 := by omega
    subst ei
    refine ⟨S, ?_, h2, h3, h4⟩
    show f3_keepFromF_b7 (f3_keepFromF_l7 n) _ _ = _
    unfold f3_keepFromF_b7
    exact if_pos (show nI 100 ≤ nI 100 by rw [lep (by omega) (by omega)]; omega)
  | succ d ih =>
    intro i n S e1 h1 hn h2 h3 h4
    obtain ⟨n, rfl⟩ : ∃ k, n = k + 1 := ⟨n - 1, by omega⟩
    obtain ⟨l, hl⟩ := KL_p (hB := hB) (i := i) (100 - i)
    rw [show i + (100 - i) = 100 by omega] at hl
    have hlen : (KL hB 100).length = (KL hB i).length + l.length := by rw [hl, List.length_append]
    have hst : f3_keepFromF_l7 (n + 1) (nI i) S = f3_keepFromF_b7 (f3_keepFromF_l7 n) (nI i) S := rfl
    rw [hst]
    unfold f3_keepFromF_b7
    rw [if_neg (show ¬ (100 : Int32) ≤ nI i by rw [z_100, lep (by omega) (by omega)]; omega), h3]
    by_cases hf : 30 ≤ (KL hB i).length
    · rw [if_pos (show (30 : Int32) ≤ nI (KL hB i).length by rw [z_30, lep (by omega) (by omega)]; exact hf)]
      have hl0 : l = [] := List.eq_nil_of_length_eq_zero (by omega)
      rw [hl0, List.append_nil] at hl
      rw [hl]
      exact ⟨S, rfl, h2, h3, h4⟩
    · rw [if_neg (show ¬ (30 : Int32) ≤ nI (KL hB i).length by rw [z_30, lep (by omega) (by omega)]; exact hf), hh S i (h2 7 (by omega)) (by omega), bd_e, z_1, nI_add]
      by_cases hb : hB i = true
      · have hK : KL hB (i + 1) = KL hB i ++ [i] := by rw [KL_s, if_pos hb]
        rw [if_pos hb, if_neg (by decide), wr_n (by omega) (by omega), cl_n (by omega), st_e]
        refine ih (i + 1) n _ (by omega) (by omega) (by omega) (fun q hq => by rw [up_n hq, up_n hq]; exact h2 q hq) ?_ (fun j hj => ?_)
        · rw [up_s, up_s, ud_s, up_s, up_n (by decide), h3, nI_add, hK, List.length_append]
          rfl
        · rw [up_s, up_n (by decide), up_s, up_s]
          rw [hK, List.length_append] at hj
          have hj : j < (KL hB i).length + 1 := hj
          rw [hK]
          by_cases e2 : j = (KL hB i).length
          · rw [e2, ud_s, gt_ae]
          · rw [ud_n e2, gt_al (by omega)]; exact h4 j (by omega)
      · have hK : KL hB (i + 1) = KL hB i := by rw [KL_s, if_neg hb, List.append_nil]
        rw [if_neg hb, if_pos rfl]
        exact ih (i + 1) n S (by omega) (by omega) (by omega) h2 (by rw [hK]; exact h3) (by rw [hK]; exact h4)
theorem pb_beg {m : Sg} {n a e : Int32} : ∀ (d r k : Nat) (z : Nat → Int32), 4 - r = d → r ≤ 4 → d < k → (∀ q, q < r → z q = nI 0) → ∃ y, f11_balanced_l3 k n a e (nI r) (va_up m 11 z) = f11_balanced_j23 n a e (va_up m 11 y) ∧ ∀ q, q < 4 → y q = nI 0 := by
  intro d
  induction d with
  | zero =>
    intro r k z e1 h1 hk hz
    obtain ⟨k, rfl⟩ : ∃ j, k = j + 1 := ⟨k - 1, by omega⟩
    have er : r = 4 := by omega
    subst er
    refine ⟨z, ?_, hz⟩
    show f11_balanced_b3 (f11_balanced_l3 k) _ _ _ _ _ = _
    unfold f11_balanced_b3
    exact if_pos (show nI 4 ≤ nI 4 by rw [lep (by omega) (by omega)]; omega)
  | succ d ih =>
    intro r k z e1 h1 hk hz
    obtain ⟨k, rfl⟩ : ∃ j, k = j + 1 := ⟨k - 1, by omega⟩
    obtain ⟨y, y1, y2⟩ := ih (r + 1) k (upd z r (nI 0)) (by omega) (by omega) (by omega) (fun q hq => by
      by_cases e : q = r
      · rw [e, ud_s]
      · rw [ud_n e]; exact hz q (by omega))
    refine ⟨y, ?_, y2⟩
    show f11_balanced_b3 (f11_balanced_l3 k) _ _ _ _ _ = _
    unfold f11_balanced_b3
    rw [if_neg (show ¬ (4 : Int32) ≤ nI r by rw [z_4, lep (by omega) (by omega)]; omega), wr_n (by omega) (by omega), cl_n (by omega), up_s, up_x, z_1, nI_add]
    exact y1
theorem rp_F {T : List Nat} {h : Sg} {P : Ob} {m : Sg} {e a n : Nat} (he : e ≤ T.length) (ha : a ≤ e) (hT : T.length ≤ 300) (hb : ∀ j, j ∈ T → j < 100) (hG : RG T h) (hx : ∀ i, i < T.length → m 1 (1405 + i) = nI (gt T i)) (hn1 : 1 ≤ n) (hn : n ≤ 30) (hP : HP P) :
    ∃ v P2 m2 K2, f3_playF h (nI 5) (nI n) (nI a) (nI e) P = some (v, P2) ∧ (b2 (f11_balanced (nI n) (nI a) (nI e) m) (fun r42 g41 => (st (va_up g41 0 (upd (g41 0) 6 (0 : Int32))) (fun g44 => (f11_replay_l80 NF (nI 5) r42 (0 : Int32) g44))))) = some (v, m2) ∧ HK K2 P2 m2 ∧ HP P2 ∧ m2 1 = m 1 ∧ m2 2 = m 2 ∧ m2 3 = m 3 ∧ m2 0 0 = m 0 0 ∧ m2 0 1 = m 0 1 := by
  obtain ⟨S3, a1, a2, a3, a4⟩ := pp_look (S := P) he hT hb hG ha
  obtain ⟨c0, hc0⟩ : ∃ c0, c0 = va_up (va_up (va_up (S3 7) 2 (fl 4 (0 : Int32) (S3 7 2))) 3 (fl 4 (0 : Int32) (S3 7 3))) 4 (fl 100 (-1 : Int32) (S3 7 4)) := ⟨_, rfl⟩
  obtain ⟨S4, hS4⟩ : ∃ S4, S4 = va_up (va_up S3 7 c0) 6 (va_up (S3 6) 0 (upd (upd (S3 6 0) 1 (nI n)) 2 0)) := ⟨_, rfl⟩
  have hbeg : f2_begin (nI n) S3 = some S4 := by
    unfold f2_begin f5_clear
    simp (disch := omega) only [st_e, bd_e, up_n, up_s, up_x]
    rw [hS4, hc0]
  obtain ⟨y, y1, y2⟩ := pb_beg (m := m) (n := nI n) (a := nI a) (e := nI e) 4 0 NF (m 11) rfl (by omega) (by decide) (fun q hq => absurd hq (Nat.not_lt_zero q))
  rw [show va_up m 11 (m 11) = m from up_id _ _] at y1
  obtain ⟨m0, hm0⟩ : ∃ m0, m0 = va_up (va_up m 11 y) 0 (upd (m 0) 16 0) := ⟨_, rfl⟩
  have hFS : FS n 0 (fun _ => []) S4 m0 := by
    refine ⟨⟨fun r hr => ⟨List.nodup_nil, fun k hk => absurd hk List.not_mem_nil⟩, fun r s k hr hs hk => absurd hk List.not_mem_nil⟩, ⟨fun r hr => ?_, fun r hr => ?_, fun r i hr hi => absurd hi (Nat.not_lt_zero i), fun k hk => ⟨fun r hr hin => absurd hin List.not_mem_nil, fun _ => ?_⟩, fun k hk => ?_⟩, ⟨?_, ?_, ?_, Nat.zero_le _⟩, ⟨fun r hr => ?_, fun r i hr hi => absurd hi (Nat.not_lt_zero i)⟩, Nat.zero_le _, Nat.zero_le _, Nat.zero_le _⟩
    · rw [hS4, up_n (by decide), up_s, hc0, up_n (by decide), up_n (by decide), up_s, fl_i hr]; rfl
    · rw [hS4, up_n (by decide), up_s, hc0, up_n (by decide), up_s, fl_i hr]; rfl
    · rw [hS4, up_n (by decide), up_s, hc0, up_s, fl_i hk]
    · rw [hS4, up_n (by decide), up_s, hc0, up_n (by decide), up_n (by decide), up_n (by decide), a3 7 (by decide)]; exact hP.2 k hk
    · rw [hS4, up_s, up_s, ud_n (by decide), ud_s]
    · rw [hS4, up_s, up_s, ud_s]; rfl
    · rw [hm0, up_s, ud_s]; rfl
    · rw [hm0, up_n (by decide), up_s]; exact y2 r hr
  obtain ⟨v, S5, m4, p, L, b1, b2', b3, b4, b5⟩ := pl_F (a := a) he hT hb hG hn1 hn (e - a) a NF NF 0 S4 m0 0 (fun _ => []) rfl (Nat.le_refl _) ha (by show _ < 8000; omega) (by show _ < 8000; omega) hFS (fun j hj => by rw [hm0, up_n (by decide), up_n (by decide)]; exact hx j hj)
  obtain ⟨hL, hR, ⟨h1, h2, h3, h4⟩, hM, h5, h6, h7⟩ := b3
  have hl3 : ∀ q, q < 4 → (L q).length ≤ 63 := lt4 (by omega) (by omega) (by omega) (by omega)
  let hB : Nat → Bool := fun k => (L 0 ++ L 1).contains k
  have hBt : ∀ k, hB k = true ↔ k ∈ L 0 ∨ k ∈ L 1 := by
    intro k
    simp only [hB, List.contains_iff_mem, List.mem_append]
  have h30 : (KL hB 100).length ≤ 30 := by
    have q := pig2 (L 0 ++ L 1) (KL hB 100) KL_n (fun k hk => List.mem_append.mpr ((hBt k).mp (KL_m hk).2))
    rw [List.length_append] at q
    omega
  obtain ⟨P5, d1, d2, d3, d4⟩ := kp_F (hB := hB) (S0 := S5) (fun S k hS hk => by
    have hw := hR.2.2.2.1 k hk
    unfold f2_holds
    rw [rd_n hk (by omega), rd_n hk (by omega), hS]
    by_cases q0 : k ∈ L 0
    · rw [hw.1 0 (by decide) q0, if_pos (show nI 0 = 0 from rfl), if_pos ((hBt k).mpr (Or.inl q0))]
    · by_cases q1 : k ∈ L 1
      · rw [hw.1 1 (by decide) q1, if_neg (by decide), if_pos (show nI 1 = 1 from rfl), if_pos ((hBt k).mpr (Or.inr q1))]
      · have hnb : ¬ hB k = true := fun q => by
          rcases (hBt k).mp q with q | q
          · exact q0 q
          · exact q1 q
        rw [if_neg hnb]
        by_cases q2 : k ∈ L 2
        · rw [hw.1 2 (by decide) q2, if_neg (by decide), if_neg (by decide)]
        · by_cases q3 : k ∈ L 3
          · rw [hw.1 3 (by decide) q3, if_neg (by decide), if_neg (by decide)]
          · rw [hw.2 (lt4 q0 q1 q2 q3), if_neg (by decide), if_neg (by decide)]) h30 100 0 NF (va_up S5 0 (va_up (S5 0) 0 (upd (S5 0 0) 4 0))) rfl (by omega) (by decide) (fun q hq => up_n hq) (by rw [up_s, up_s, ud_s]; rfl) (fun j hj => absurd hj (Nat.not_lt_zero j))
  obtain ⟨m5, f1, f2, f3, f4⟩ := kp_m (hB := hB) (a1 := nI 5) (v := v) (m0 := m4) (fun n2 k q hk hq => by
    have hMq : FM L q := hM.fr (hq.1 10 (by decide) (by decide)) (hq.1 11 (by decide) (by decide))
    show f11_replay_b80 (f11_replay_l80 n2) _ _ _ _ = _
    unfold f11_replay_b80
    rw [if_neg (show ¬ (100 : Int32) ≤ nI k by rw [z_100, lep (by omega) (by omega)]; omega), if_pos (show nI 5 = 5 from rfl)]
    by_cases q0 : k ∈ L 0
    · obtain ⟨i, hi, hg, hf, her⟩ := pos_ex _ q0
      have hl0 := hl3 0 (by decide)
      rw [show f11_indexIn q 0 (nI k) = some (nI i) from pj_idx (r := 0) (by decide) hl0 (hL.1 0 (by decide)).2 hMq hk hi hg hf, bd_e, if_pos (show (0 : Int32) ≤ nI i by rw [z_0, lep (by omega) (by omega)]; omega), if_pos ((hBt k).mpr (Or.inl q0))]
    · rw [show f11_indexIn q 0 (nI k) = some (-1) from pj_idxN (r := 0) (by decide) (hl3 0 (by decide)) (hL.1 0 (by decide)).2 hMq hk q0, bd_e, if_neg (show ¬ (0 : Int32) ≤ -1 by decide)]
      by_cases q1 : k ∈ L 1
      · obtain ⟨i, hi, hg, hf, her⟩ := pos_ex _ q1
        have hl0 := hl3 1 (by decide)
        rw [show f11_indexIn q 1 (nI k) = some (nI i) from pj_idx (r := 1) (by decide) hl0 (hL.1 1 (by decide)).2 hMq hk hi hg hf, bd_e, if_neg (show ¬ nI i < 0 by rw [z_0, ltp (by omega) (by omega)]; omega), if_pos ((hBt k).mpr (Or.inr q1))]
      · have hnb : ¬ hB k = true := fun q => by
          rcases (hBt k).mp q with q | q
          · exact q0 q
          · exact q1 q
        rw [show f11_indexIn q 1 (nI k) = some (-1) from pj_idxN (r := 1) (by decide) (hl3 1 (by decide)) (hL.1 1 (by decide)).2 hMq hk q1, bd_e, if_pos (show (-1 : Int32) < 0 by decide), if_neg hnb, z_1, nI_add]) 100 0 NF (va_up m4 0 (upd (m4 0) 6 0)) rfl (by omega) (by decide) ⟨fun o ho _ => up_n ho, fun j hj => by rw [up_s, ud_n hj]⟩ (by rw [up_s, ud_s]; rfl) (fun j hj => absurd hj (Nat.not_lt_zero j))
  have hmo : ∀ o, 1 ≤ o → o ≤ 3 → m5 o = m o := fun o h1 h2 => by rw [f2.1 o (by omega) (by omega), b4.1 o (by omega) (by omega) (by omega), hm0, up_n (by omega), up_n (by omega)]
  have hm00 : ∀ j, j < 2 → m5 0 j = m 0 j := fun j hj => by rw [f2.2 j (by omega), b4.2 j (by omega), hm0, up_s, ud_n (by omega)]
  refine ⟨v, P5, m5, KL hB 100, ?_, ?_, ⟨h30, d3, d4, f3, f4⟩, ⟨fun i hi => ?_, fun k hk => ?_⟩, hmo 1 (by omega) (by omega), hmo 2 (by omega) (by omega), hmo 3 (by omega) (by omega), hm00 0 (by omega), hm00 1 (by omega)⟩
  · unfold f3_playF
    rw [ck_n (by omega) (by omega), a1, bd_e, hbeg, bd_e]
    refine Eq.trans b1 ?_
    unfold f3_playF_j69 f3_keepFromF
    rw [st_e]
    rw [show f3_keepFromF_l7 NF 0 (va_up S5 0 (va_up (S5 0) 0 (upd (S5 0 0) 4 0))) = some P5 from d1]
    rfl
  · unfold f11_balanced
    rw [show f11_balanced_l3 NF (nI n) (nI a) (nI e) 0 m = _ from y1]
    unfold f11_balanced_j23
    rw [st_e, up_n (show (0 : Nat) ≠ 11 by decide), ← hm0]
    rw [show f11_balanced_l34 NF (nI n) (nI e) 0 (nI a) m0 = some (v, m4) from b2', b2_e, st_e]
    exact f1
  · rw [d2 _ (by omega), b5 _ (by omega) (by omega), hS4, up_n (by omega), up_n (by omega), a3 _ (by omega)]; exact hP.1 i hi
  · rw [d2 _ (by omega)]
    exact hR.2.2.2.2 k hk
theorem sim_replay : Sim_replay Rel := by
  intro M a1 a2 a3 a4 h
  have hno := rel_no h
  obtain ⟨D, C, s, sv, K, h⟩ := h
  have hrel := h
  obtain ⟨A, ⟨w, p, q⟩, Z, ⟨mode, W, step, per, ch, ca, cb⟩, ⟨o, acc, hits, dir⟩, T⟩ := s
  obtain ⟨k1, k2, k3, k4, k5, k7, k8, k9, k14, ⟨k15, k15b⟩, k16⟩ := h.2.1
  obtain ⟨s1, s2, s3, s4, s5, s6, s7⟩ := h.2.2.1
  obtain ⟨x1, x2, x3, xV⟩ := h.2.2.2.1
  have hlen : M 0 4 0 2 = nI T.length := by
    obtain ⟨ec, hec, g1, g2, g3⟩ := s4
    exact g2
  have hP := h.2.2.2.2.2.2.2
  unfold f10_replay f11_replay
  have e1 : (a1 < 0 ∧ f11_in a1 0 5 = some 0) ∨ (¬ a1 < 0 ∧ (6 : Int32) ≤ a1 ∧ f11_in a1 0 5 = some 0) ∨ ∃ c, c ≤ 5 ∧ a1 = nI c ∧ f11_in a1 0 5 = some 1 := by
    rcases rng_c a1 (lo := 0) (hi := 5) (by decide) (by decide) with ⟨q1, q2⟩ | ⟨q1, q2, q3⟩ | ⟨c, q1, q2, q3, q4⟩
    · exact Or.inl ⟨q1, q2⟩
    · refine Or.inr (Or.inl ⟨q1, ?_, q3⟩)
      rcases pk_ix (n := 6) a1 (by decide) with d | d | ⟨j, hj, rfl⟩
      · exact absurd d q1
      · exact d
      · exact absurd (show nI j ≤ nI 5 by rw [lep (by omega) (by omega)]; omega) q2
    · exact Or.inr (Or.inr ⟨c, q2, q3, q4⟩)
  rcases e1 with ⟨q1, q2⟩ | ⟨q1, q2, q3⟩ | ⟨pi, hpi, rfl, q3⟩
  · exact ⟨-2, M, M 7 0, if_pos q1, rfl, by rw [q2]; rfl, hno⟩
  · exact ⟨-2, M, M 7 0, by rw [if_neg q1, if_pos q2], rfl, by rw [q3]; rfl, hno⟩
  rw [if_neg (show ¬ nI pi < 0 by rw [z_0, ltp (by omega) (by omega)]; omega), if_neg (show ¬ (6 : Int32) ≤ nI pi by rw [z6, lep (by omega) (by omega)]; omega), q3]
  simp only [bd_e, if_neg (show ¬ (1 : Int32) = 0 by decide)]
  have e5 : (a2 < 1 ∧ f11_in a2 1 30 = some 0) ∨ (¬ a2 < 1 ∧ ¬ a2 ≤ 30 ∧ f11_in a2 1 30 = some 0) ∨ ∃ c, 1 ≤ c ∧ c ≤ 30 ∧ a2 = nI c ∧ f11_in a2 1 30 = some 1 := rng_c a2 (lo := 1) (hi := 30) (by decide) (by decide)
  rcases e5 with ⟨q1, q2⟩ | ⟨q1, q2, q3⟩ | ⟨n, n1, n2, rfl, q3⟩
  · exact ⟨-2, M, M 7 0, if_pos q1, rfl, by rw [q2]; rfl, hno⟩
  · exact ⟨-2, M, M 7 0, by rw [if_neg q1, if_neg q2], rfl, by rw [q3]; rfl, hno⟩
  rw [if_neg (show ¬ nI n < 1 by rw [z_1, ltp (by omega) (by omega)]; omega), if_pos (show nI n ≤ 30 by rw [z_30, lep (by omega) (by omega)]; omega), q3]
  simp only [bd_e, if_neg (show ¬ (1 : Int32) = 0 by decide)]
  by_cases b3 : a3 < 0
  · exact ⟨-2, M, M 7 0, if_pos b3, rfl, if_pos b3, hno⟩
  by_cases b4 : a4 < a3
  · exact ⟨-2, M, M 7 0, by rw [if_neg b3, if_pos b4], rfl, by rw [if_neg b3, if_pos b4], hno⟩
  rw [if_neg b3, if_neg b4, hlen]
  have hx4 : M 7 0 1 1404 = nI T.length := xV.2.2.2.2.1
  by_cases b5 : ¬ a4 ≤ nI T.length
  · refine ⟨-2, M, M 7 0, if_neg b5, rfl, ?_, hno⟩
    rw [if_neg b3, if_neg b4, z_1404, rd_n (by omega) (by omega), hx4, if_neg b5]
  have b5 : a4 ≤ nI T.length := Decidable.not_not.mp b5
  rw [if_pos b5]
  obtain ⟨e, he, rfl⟩ : ∃ e, e ≤ T.length ∧ a4 = nI e := by
    rcases pk_ix (n := T.length + 1) a4 (by omega) with d | d | ⟨j, hj, d⟩
    · exact absurd (Int32.lt_of_le_of_lt (Int32.not_lt.mp b4) d) b3
    · exact absurd (Int32.le_trans d b5) (by rw [lep (by omega) (by omega)]; omega)
    · exact ⟨j, by omega, d⟩
  obtain ⟨a, ha, rfl⟩ : ∃ a, a ≤ e ∧ a3 = nI a := by
    rcases pk_ix (n := e + 1) a3 (by omega) with d | d | ⟨j, hj, d⟩
    · exact absurd d b3
    · exact absurd (Int32.le_trans d (Int32.not_lt.mp b4)) (by rw [lep (by omega) (by omega)]; omega)
    · exact ⟨j, by omega, d⟩
  have hx5 : ∀ i, i < T.length → M 7 0 1 (1405 + i) = nI (gt T i) := xV.2.2.2.2.2
  rw [cl_n (by omega)]
  by_cases p5 : pi < 5
  · obtain ⟨v, P2, m2, K2, c1, c2, c3, c4, c5, c6, c7, c8, c9⟩ := rp_S (m := M 7 0) he ha k15 k15b s4 hx5 p5 n1 n2 hP
    refine ⟨v, va_up M 5 P2, m2, ?_, by rw [up_n (by decide)], ?_, rel_rp hrel c5 c6 c7 c8 c9 c3 c4⟩
    · rw [if_pos p5, c1]
      rfl
    · rw [up_n (show (7 : Nat) ≠ 5 by decide), if_neg b3, if_neg b4, z_1404, rd_n (by omega) (by omega), hx4, if_pos b5, if_neg (show ¬ nI pi = 5 by rw [z_5, eqp (by omega) (by omega)]; omega)]
      exact c2
  · have e5 : pi = 5 := by omega
    subst e5
    obtain ⟨v, P2, m2, K2, c1, c2, c3, c4, c5, c6, c7, c8, c9⟩ := rp_F (m := M 7 0) he ha k15 k15b s4 hx5 n1 n2 hP
    refine ⟨v, va_up M 5 P2, m2, ?_, by rw [up_n (by decide)], ?_, rel_rp hrel c5 c6 c7 c8 c9 c3 c4⟩
    · rw [if_neg p5, ck_n (by omega) (by omega), c1]
      rfl
    · rw [up_n (show (7 : Nat) ≠ 5 by decide), if_neg b3, if_neg b4, z_1404, rd_n (by omega) (by omega), hx4, if_pos b5, if_pos (show nI 5 = 5 from rfl)]
      exact c2
