/-! the whole trace is played, and what is kept is written down -/
theorem pl_S {T : List Nat} {h : Sg} {e a pi n : Nat} (he : e ≤ T.length) (hT : T.length ≤ 300) (hb : ∀ j, j ∈ T → j < 100) (hG : RG T h) (hpi : pi < 5) (hn1 : 1 ≤ n) : ∀ (d i n1 n2 : Nat) (v : Int32) (S : Ob) (m : Sg) (t hd : Nat) (ke : Nat → Nat), e - i = d → a ≤ i → i ≤ e → d < n1 → d < n2 → SE T e pi n i t hd ke (S (pi + 1)) m → (∀ j, a ≤ j → j < e → S 0 2 j = nI (fu T e (gt T j) (j + 1))) → (∀ i, i < T.length → m 1 (1405 + i) = nI (gt T i)) →
    ∃ v2 S2 m2 t2 hd2 ke2, f3_playS_l30 pi h n1 (nI e) v (nI i) S = f3_playS_j69 pi h v2 S2 ∧ f11_played_l16 n2 (nI pi) (nI n) (nI e) v (nI i) m = some (v2, m2) ∧ SE T e pi n e t2 hd2 ke2 (S2 (pi + 1)) m2 ∧ MF m m2 ∧ (∀ q, q ≠ pi + 1 → S2 q = S q) ∧ S2 (pi + 1) 0 0 = S (pi + 1) 0 0 := by
  intro d
  induction d with
  | zero =>
    intro i n1 n2 v S m t hd ke e1 h1 h2 hn1 hn2 hS hnx hx
    obtain ⟨n1, rfl⟩ : ∃ k, n1 = k + 1 := ⟨n1 - 1, by omega⟩
    obtain ⟨n2, rfl⟩ : ∃ k, n2 = k + 1 := ⟨n2 - 1, by omega⟩
    have ei : i = e := by omega
    subst ei
    have hle : nI i ≤ nI i := by rw [lep (by omega) (by omega)]; omega
    refine ⟨v, S, m, t, hd, ke, ?_, ?_, hS, MF.r, fun _ _ => rfl, rfl⟩
    · show f3_playS_b30 pi h (f3_playS_l30 pi h n1) _ _ _ _ = _
      unfold f3_playS_b30
      exact if_pos hle
    · show f11_played_b16 (f11_played_l16 n2) _ _ _ _ _ _ = _
      unfold f11_played_b16
      exact if_pos hle
  | succ d ih =>
    intro i n1 n2 v S m t hd ke e1 h1 h2 hn1 hn2 hS hnx hx
    obtain ⟨n1, rfl⟩ : ∃ k, n1 = k + 1 := ⟨n1 - 1, by omega⟩
    obtain ⟨n2, rfl⟩ : ∃ k, n2 = k + 1 := ⟨n2 - 1, by omega⟩
    obtain ⟨r, t2, hd2, ke2, c2, m2, a1, a2, a3, a4, a5, a6⟩ := se_step he hT hb hx (show i < e by omega) hpi (by omega) hS
    obtain ⟨v2, S3, m3, t3, hd3, ke3, b1, b2, b3, b4, b5, b6⟩ := ih (i + 1) n1 n2 (v + nI r) (va_up S (pi + 1) c2) m2 t2 hd2 ke2 (by omega) (by omega) (by omega) (by omega) (by omega) (by rw [up_s]; exact a4) (fun j h3 h4 => by rw [up_n (by omega)]; exact hnx j h3 h4) (fun j hj => by rw [a5.1 1 (by omega)]; exact hx j hj)
    refine ⟨v2, S3, m3, t3, hd3, ke3, ?_, ?_, b3, a5.t b4, fun q hq => ?_, ?_⟩
    · show f3_playS_b30 pi h (f3_playS_l30 pi h n1) _ _ _ _ = _
      unfold f3_playS_b30
      rw [if_neg (show ¬ nI e ≤ nI i by rw [lep (by omega) (by omega)]; omega), pt_key hT hG (by omega), bd_e, rd_n (by omega) (by omega), hnx i h1 (by omega), a2, b2_e, st_e, z_1, nI_add]
      have hr : r = 0 ∨ r = 1 := by omega
      rcases hr with rfl | rfl
      · rw [if_pos (show nI 0 = 0 from rfl)]
        rw [show v + nI 0 = v from Int32.add_zero v] at b1
        exact b1
      · rw [if_neg (by decide)]
        exact b1
    · show f11_played_b16 (f11_played_l16 n2) _ _ _ _ _ _ = _
      rw [a3]
      exact b2
    · rw [b5 q hq, up_n hq]
    · rw [b6, up_s, a6]
def KL (hB : Nat → Bool) (i : Nat) : List Nat := (List.range i).filter hB
theorem KL_s {hB : Nat → Bool} {i : Nat} : KL hB (i + 1) = KL hB i ++ (if hB i = true then [i] else []) := by
  unfold KL
  rw [List.range_succ, List.filter_append]
  cases h : hB i <;> simp [h]
theorem KL_p {hB : Nat → Bool} {i : Nat} : ∀ d, ∃ l, KL hB (i + d) = KL hB i ++ l
  | 0 => ⟨[], (List.append_nil _).symm⟩
  | d + 1 => by
    obtain ⟨l, hl⟩ := KL_p (hB := hB) (i := i) d
    rw [show i + (d + 1) = i + d + 1 by omega, KL_s, hl, List.append_assoc]
    exact ⟨_, rfl⟩
theorem KL_n {hB : Nat → Bool} {i : Nat} : (KL hB i).Nodup := List.Pairwise.filter _ List.nodup_range
theorem KL_m {hB : Nat → Bool} {i k : Nat} (h : k ∈ KL hB i) : k < i ∧ hB k = true := by
  have := List.mem_filter.mp h
  exact ⟨List.mem_range.mp this.1, this.2⟩
theorem pig2 : ∀ (ks l : List Nat), l.Nodup → (∀ k, k ∈ l → k ∈ ks) → l.length ≤ ks.length
  | [], l, _, h => by
    match l with
    | [] => exact Nat.le_refl _
    | a :: l => exact absurd (h a List.mem_cons_self) List.not_mem_nil
  | a :: ks, l, hn, h => by
    have h1 := pig2 ks (l.erase a) (hn.erase a) (fun k hk => by
      have h2 := (List.Nodup.mem_erase_iff hn).mp hk
      rcases List.mem_cons.mp (h k h2.2) with h3 | h3
      · exact absurd h3 h2.1
      · exact h3)
    have h2 : l.length ≤ (l.erase a).length + 1 := by
      by_cases hm : a ∈ l
      · rw [List.length_erase_of_mem hm]; omega
      · rw [er_n hm]; omega
    show l.length ≤ ks.length + 1
    omega
theorem KL_30 {hB : Nat → Bool} {t : Nat} {ke : Nat → Nat} (h : ∀ k, hB k = true → ∃ s, s < t ∧ ke s = k) {i : Nat} : (KL hB i).length ≤ t := by
  have h1 := pig2 ((List.range t).map ke) (KL hB i) KL_n (fun k hk => by
    obtain ⟨s, hs, e⟩ := h k (KL_m hk).2
    exact List.mem_map.mpr ⟨s, List.mem_range.mpr hs, e⟩)
  rw [List.length_map, List.length_range] at h1
  exact h1
theorem kp_S {hB : Nat → Bool} {pi : Nat} {S0 : Ob} (hh : ∀ k, k < 100 → f6_holds (S0 (pi + 1)) (nI k) = some (if hB k = true then 1 else 0)) (h30 : (KL hB 100).length ≤ 30) : ∀ (d i n : Nat) (S : Ob), 100 - i = d → i ≤ 100 → d < n → (∀ q, q ≠ 0 → S q = S0 q) → S 0 0 4 = nI (KL hB i).length → (∀ j, j < (KL hB i).length → S 0 4 j = nI (gt (KL hB i) j)) → ∃ S2, f3_keepFromS_l7 pi n (nI i) S = some S2 ∧ (∀ q, q ≠ 0 → S2 q = S0 q) ∧ S2 0 0 4 = nI (KL hB 100).length ∧ ∀ j, j < (KL hB 100).length → S2 0 4 j = nI (gt (KL hB 100) j) := by
  intro d
  induction d with
  | zero =>
    intro i n S e1 h1 hn h2 h3 h4
    obtain ⟨n, rfl⟩ : ∃ k, n = k + 1 := ⟨n - 1, by omega⟩
    have ei : i = 100 := by omega
    subst ei
    refine ⟨S, ?_, h2, h3, h4⟩
    show f3_keepFromS_b7 pi (f3_keepFromS_l7 pi n) _ _ = _
    unfold f3_keepFromS_b7
    exact if_pos (show nI 100 ≤ nI 100 by rw [lep (by omega) (by omega)]; omega)
  | succ d ih =>
    intro i n S e1 h1 hn h2 h3 h4
    obtain ⟨n, rfl⟩ : ∃ k, n = k + 1 := ⟨n - 1, by omega⟩
    obtain ⟨l, hl⟩ := KL_p (hB := hB) (i := i) (100 - i)
    rw [show i + (100 - i) = 100 by omega] at hl
    have hlen : (KL hB 100).length = (KL hB i).length + l.length := by rw [hl, List.length_append]
    have hst : f3_keepFromS_l7 pi (n + 1) (nI i) S = f3_keepFromS_b7 pi (f3_keepFromS_l7 pi n) (nI i) S := rfl
    rw [hst]
    unfold f3_keepFromS_b7
    rw [if_neg (show ¬ (100 : Int32) ≤ nI i by rw [z_100, lep (by omega) (by omega)]; omega), h3]
    by_cases hf : 30 ≤ (KL hB i).length
    · rw [if_pos (show (30 : Int32) ≤ nI (KL hB i).length by rw [z_30, lep (by omega) (by omega)]; exact hf)]
      have hl0 : l = [] := List.eq_nil_of_length_eq_zero (by omega)
      rw [hl0, List.append_nil] at hl
      rw [hl]
      exact ⟨S, rfl, h2, h3, h4⟩
    · rw [if_neg (show ¬ (30 : Int32) ≤ nI (KL hB i).length by rw [z_30, lep (by omega) (by omega)]; exact hf), h2 (pi + 1) (by omega), hh i (by omega), bd_e, z_1, nI_add]
      by_cases hb : hB i = true
      · have hK : KL hB (i + 1) = KL hB i ++ [i] := by rw [KL_s, if_pos hb]
        rw [if_pos hb, if_neg (by decide), wr_n (by omega) (by omega), cl_n (by omega), st_e]
        refine ih (i + 1) n _ (by omega) (by omega) (by omega) (fun q hq => by rw [up_n hq, up_n hq]; exact h2 q hq) ?_ (fun j hj => ?_)
        · rw [up_s, up_s, ud_s, up_s, up_n (by decide), h3, nI_add, hK, List.length_append]
          rfl
        · rw [up_s, up_n (by decide), up_s, up_s]
          rw [hK, List.length_append] at hj
          have hj : j < (KL hB i).length + 1 := hj
          rw [hK]
          by_cases e2 : j = (KL hB i).length
          · rw [e2, ud_s, gt_ae]
          · rw [ud_n e2, gt_al (by omega)]; exact h4 j (by omega)
      · have hK : KL hB (i + 1) = KL hB i := by rw [KL_s, if_neg hb, List.append_nil]
        rw [if_neg hb, if_pos rfl]
        exact ih (i + 1) n S (by omega) (by omega) (by omega) h2 (by rw [hK]; exact h3) (by rw [hK]; exact h4)
/-- the reference's other numbers stay when it writes down what is kept -/
def NF6 (m m2 : Sg) : Prop := (∀ o, o ≠ 0 → o ≠ 4 → m2 o = m o) ∧ ∀ j, j ≠ 6 → m2 0 j = m 0 j
theorem kp_m {hB : Nat → Bool} {a1 v : Int32} {m0 : Sg} (hst : ∀ (n k : Nat) (m : Sg), k < 100 → NF6 m0 m → f11_replay_l80 (n + 1) a1 v (nI k) m = if hB k = true then f11_replay_j112 (f11_replay_l80 n) a1 v (nI k) m else f11_replay_l80 n a1 v (nI (k + 1)) m) : ∀ (d i n : Nat) (m : Sg), 100 - i = d → i ≤ 100 → d < n → NF6 m0 m → m 0 6 = nI (KL hB i).length → (∀ j, j < (KL hB i).length → m 4 j = nI (gt (KL hB i) j)) → ∃ m2, f11_replay_l80 n a1 v (nI i) m = some (v, m2) ∧ NF6 m0 m2 ∧ m2 0 6 = nI (KL hB 100).length ∧ ∀ j, j < (KL hB 100).length → m2 4 j = nI (gt (KL hB 100) j) := by
  intro d
  induction d with
  | zero =>
    intro i n m e1 h1 hn h2 h3 h4
    obtain ⟨n, rfl⟩ : ∃ k, n = k + 1 := ⟨n - 1, by omega⟩
    have ei : i = 100 := by omega
    subst ei
    refine ⟨m, ?_, h2, h3, h4⟩
    show f11_replay_b80 (f11_replay_l80 n) _ _ _ _ = _
    unfold f11_replay_b80
    exact if_pos (show nI 100 ≤ nI 100 by rw [lep (by omega) (by omega)]; omega)
  | succ d ih =>
    intro i n m e1 h1 hn h2 h3 h4
    obtain ⟨n, rfl⟩ : ∃ k, n = k + 1 := ⟨n - 1, by omega⟩
    have hlen : (KL hB i).length ≤ i := pigeon i _ KL_n (fun k hk => (KL_m hk).1)
    rw [hst n i m (by omega) h2]
    by_cases hb : hB i = true
    · have hK : KL hB (i + 1) = KL hB i ++ [i] := by rw [KL_s, if_pos hb]
      rw [if_pos hb]
      unfold f11_replay_j112
      rw [h3, wr_n (by omega) (by omega), cl_n (by omega), st_e, z_1, nI_add, up_n (show (0 : Nat) ≠ 4 by decide), h3, nI_add]
      refine ih (i + 1) n _ (by omega) (by omega) (by omega) ⟨fun o ho ho4 => by rw [up_n ho, up_n ho4]; exact h2.1 o ho ho4, fun j hj => by rw [up_s, ud_n hj]; exact h2.2 j hj⟩ ?_ (fun j hj => ?_)
      · rw [up_s, ud_s, hK, List.length_append]
        rfl
      · rw [up_n (by decide), up_s]
        rw [hK, List.length_append] at hj
        have hj : j < (KL hB i).length + 1 := hj
        rw [hK]
        by_cases e2 : j = (KL hB i).length
        · rw [e2, ud_s, gt_ae]
        · rw [ud_n e2, gt_al (by omega)]; exact h4 j (by omega)
    · have hK : KL hB (i + 1) = KL hB i := by rw [KL_s, if_neg hb, List.append_nil]
      rw [if_neg hb]
      exact ih (i + 1) n m (by omega) (by omega) (by omega) h2 (by rw [hK]; exact h3) (by rw [hK]; exact h4)
theorem rel_rp {D C : Nat} {s : AS} {sv : Nat → AS} {K K2 : List Nat} {M : Me} {P2 : Ob} {m2 : Sg} (h : RelA D C s sv K M) (e1 : m2 1 = M 7 0 1) (e2 : m2 2 = M 7 0 2) (e3 : m2 3 = M 7 0 3) (e4 : m2 0 0 = M 7 0 0 0) (e5 : m2 0 1 = M 7 0 0 1) (a : HK K2 P2 m2) (b : HP P2) : Rel (uI (va_up M 5 P2) 7 0 m2) := by
  obtain ⟨h1, h2, h3, h4, h5, h6, h7, h8⟩ := h
  have en : ∀ t, t ≠ 5 → t ≠ 7 → uI (va_up M 5 P2) 7 0 m2 t = M t := fun t h0 h7 => by rw [uI_ne h7, up_n h0]
  have e7 : uI (va_up M 5 P2) 7 0 m2 7 0 = m2 := uI_at
  have e50 : uI (va_up M 5 P2) 7 0 m2 5 = P2 := by rw [uI_ne (by decide), up_s]
  refine ⟨D, C, s, sv, K2, h1, h2, ?_, ?_, ?_, ?_, ?_, ?_⟩
  · rw [en 0 (by decide) (by decide)]; exact h3
  · rw [e7, e1]; exact h4
  · rw [en 6 (by decide) (by decide), e7, e4, e5]; exact h5
  · exact h6.fr (by rw [en 6 (by decide) (by decide)]) (fun r hr => en _ (by omega) (by omega)) (by rw [e7, e2]) (by rw [e7, e3])
  · rw [e50, e7]; exact a
  · rw [e50]; exact b
/-- the five policies with seats -/
theorem rp_S {T : List Nat} {h : Sg} {P : Ob} {m : Sg} {e a pi n : Nat} (he : e ≤ T.length) (ha : a ≤ e) (hT : T.length ≤ 300) (hb : ∀ j, j ∈ T → j < 100) (hG : RG T h) (hx : ∀ i, i < T.length → m 1 (1405 + i) = nI (gt T i)) (hpi : pi < 5) (hn1 : 1 ≤ n) (hn : n ≤ 30) (hP : HP P) :
    ∃ v P2 m2 K2, f3_playS pi h (nI pi) (nI n) (nI a) (nI e) P = some (v, P2) ∧ (b2 (f11_played (nI pi) (nI n) (nI a) (nI e) m) (fun r17 g16 => (st (va_up g16 0 (upd (g16 0) 6 (0 : Int32))) (fun g19 => (f11_replay_l80 NF (nI pi) r17 (0 : Int32) g19))))) = some (v, m2) ∧ HK K2 P2 m2 ∧ HP P2 ∧ m2 1 = m 1 ∧ m2 2 = m 2 ∧ m2 3 = m 3 ∧ m2 0 0 = m 0 0 ∧ m2 0 1 = m 0 1 := by
  obtain ⟨S3, a1, a2, a3, a4⟩ := pp_look (S := P) he hT hb hG ha
  have hpn : ¬ nI pi = (5 : Int32) := by rw [z_5, eqp (by omega) (by omega)]; omega
  obtain ⟨c0, hc0⟩ : ∃ c0, c0 = va_up (S3 (pi + 1)) 0 (upd (upd (upd (S3 (pi + 1) 0) 7 (nI n)) 8 0) 9 0) := ⟨_, rfl⟩
  have hbeg : f6_begin (nI n) (S3 (pi + 1)) = some c0 := by
    have hcl := cl_id (t := n) (lo := 1) (hi := 30) hn1 hn (by decide)
    have hcl : (if (1 : Int32) < (if nI n < (30 : Int32) then nI n else (30 : Int32)) then (if nI n < (30 : Int32) then nI n else (30 : Int32)) else (1 : Int32)) = nI n := hcl
    unfold f6_begin
    rw [hcl, hc0]
    simp only [st_e, up_s, up_x]
  obtain ⟨m0, hm0⟩ : ∃ m0, m0 = va_up m 0 (upd (upd (m 0) 12 0) 13 0) := ⟨_, rfl⟩
  have hc00 : c0 0 0 = nI pi := by rw [hc0, up_s, ud_n (by decide), ud_n (by decide), ud_n (by decide), a3 _ (by omega)]; exact hP.1 pi hpi
  have hSE : SE T e pi n a 0 0 (fun _ => 0) c0 m0 := by
    refine ⟨⟨hc00, ?_, ?_, ?_, ?_, ?_⟩, ⟨by omega, by omega, hn⟩, fun s hs => absurd hs (Nat.not_lt_zero s), fun s q hs => absurd hs (Nat.not_lt_zero s)⟩
    · rw [hc0, up_s, ud_n (by decide), ud_n (by decide), ud_s]
    · rw [hc0, up_s, ud_n (by decide), ud_s]; rfl
    · rw [hc0, up_s, ud_s]; rfl
    · rw [hm0, up_s, ud_n (by decide), ud_s]; rfl
    · rw [hm0, up_s, ud_s]; rfl
  obtain ⟨v, S4, m4, t, hd, ke, b1, b2', b3, b4, b5, b6⟩ := pl_S (a := a) he hT hb hG hpi hn1 (e - a) a NF NF 0 (va_up S3 (pi + 1) c0) m0 0 0 (fun _ => 0) rfl (Nat.le_refl _) ha (by show _ < 8000; omega) (by show _ < 8000; omega) (by rw [up_s]; exact hSE) (fun j h3 h4 => by rw [up_n (by omega)]; exact a2 j h3 h4) (fun j hj => by rw [hm0, up_n (by decide)]; exact hx j hj)
  have ht : t ≤ 30 := by have := b3.2.1; omega
  let hB : Nat → Bool := fun k => (List.range t).any (fun s => ke s == k)
  have hBt : ∀ k, hB k = true ↔ ∃ s, s < t ∧ ke s = k := by
    intro k
    simp only [hB, List.any_eq_true, List.mem_range, beq_iff_eq]
  have h30 : (KL hB 100).length ≤ 30 := Nat.le_trans (KL_30 (fun k hk => (hBt k).mp hk)) ht
  obtain ⟨P5, d1, d2, d3, d4⟩ := kp_S (hB := hB) (pi := pi) (S0 := S4) (fun k hk => by
    unfold f6_holds
    by_cases hh : hB k = true
    · obtain ⟨s, hs, hsk⟩ := (hBt k).mp hh
      rw [(se_in b3 hk hs hsk).1, bd_e, if_neg (nI_nm1 (by omega)), if_pos hh]
    · rw [(se_out b3 hk (fun s hs hsk => hh ((hBt k).mpr ⟨s, hs, hsk⟩))).1, bd_e, if_pos rfl, if_neg hh]) h30 100 0 NF (va_up S4 0 (va_up (S4 0) 0 (upd (S4 0 0) 4 0))) rfl (by omega) (by decide) (fun q hq => up_n hq) (by rw [up_s, up_s, ud_s]; rfl) (fun j hj => absurd hj (Nat.not_lt_zero j))
  obtain ⟨m5, f1, f2, f3, f4⟩ := kp_m (hB := hB) (a1 := nI pi) (v := v) (m0 := m4) (fun n2 k q hk hq => by
    show f11_replay_b80 (f11_replay_l80 n2) _ _ _ _ = _
    unfold f11_replay_b80
    rw [if_neg (show ¬ (100 : Int32) ≤ nI k by rw [z_100, lep (by omega) (by omega)]; omega), if_neg hpn]
    have hSEq : SE T e pi n e t hd ke (S4 (pi + 1)) q := by
      obtain ⟨⟨s1, s2, s3, s4, s5, s6⟩, s7, s8, s9⟩ := b3
      refine ⟨⟨s1, s2, s3, s4, by rw [hq.2 _ (by decide)]; exact s5, by rw [hq.2 _ (by decide)]; exact s6⟩, s7, fun s hs => ?_, s9⟩
      unfold SQ
      rw [hq.1 5 (by decide) (by decide), hq.1 6 (by decide) (by decide), hq.1 7 (by decide) (by decide), hq.1 8 (by decide) (by decide), hq.1 9 (by decide) (by decide)]
      exact s8 s hs
    by_cases hh : hB k = true
    · obtain ⟨s, hs, hsk⟩ := (hBt k).mp hh
      rw [(se_in hSEq hk hs hsk).2, bd_e, if_neg (show ¬ nI s < 0 by rw [z_0, ltp (by omega) (by omega)]; omega), if_pos hh]
      rfl
    · rw [(se_out hSEq hk (fun s hs hsk => hh ((hBt k).mpr ⟨s, hs, hsk⟩))).2, bd_e, if_pos (show (-1 : Int32) < 0 by decide), if_neg hh, z_1, nI_add]) 100 0 NF (va_up m4 0 (upd (m4 0) 6 0)) rfl (by omega) (by decide) ⟨fun o ho _ => up_n ho, fun j hj => by rw [up_s, ud_n hj]⟩ (by rw [up_s, ud_s]; rfl) (fun j hj => absurd hj (Nat.not_lt_zero j))
  have hmo : ∀ o, 1 ≤ o → o ≤ 3 → m5 o = m o := fun o h1 h2 => by rw [f2.1 o (by omega) (by omega), b4.1 o (by omega), hm0, up_n (by omega)]
  have hm00 : ∀ j, j < 2 → m5 0 j = m 0 j := fun j hj => by rw [f2.2 j (by omega), b4.2 j (by omega), hm0, up_s, ud_n (by omega), ud_n (by omega)]
  refine ⟨v, P5, m5, KL hB 100, ?_, ?_, ⟨h30, d3, d4, f3, f4⟩, ⟨fun i hi => ?_, fun k hk => ?_⟩, hmo 1 (by omega) (by omega), hmo 2 (by omega) (by omega), hmo 3 (by omega) (by omega), hm00 0 (by omega), hm00 1 (by omega)⟩
  · unfold f3_playS
    rw [ck_n (by omega) (by omega), a1, bd_e, hbeg, bd_e, st_e]
    refine Eq.trans b1 ?_
    unfold f3_playS_j69 f3_keepFromS
    rw [st_e]
    rw [show f3_keepFromS_l7 pi NF 0 (va_up S4 0 (va_up (S4 0) 0 (upd (S4 0 0) 4 0))) = some P5 from d1]
    rfl
  · unfold f11_played
    rw [st_e, st_e, up_s, up_x, ← hm0]
    rw [show f11_played_l16 NF (nI pi) (nI n) (nI e) 0 (nI a) m0 = some (v, m4) from b2', b2_e, st_e]
    exact f1
  · rw [d2 _ (by omega)]
    by_cases e2 : i = pi
    · subst e2
      rw [b6, up_s, hc00]
    · rw [b5 _ (by omega), up_n (by omega), a3 _ (by omega)]; exact hP.1 i hi
  · rw [d2 _ (by omega), b5 _ (by omega), up_n (by omega), a3 _ (by omega)]; exact hP.2 k hk
