/-! THE CLAIM OUT OF ONE WALK OF THE LAW'S BODY. Your part is whole_start (and what it stands on); all else here is the same for every law, but numbers. -/
def R_law : String := "SketchCacheLaw"
def lw_P (b : Addr) (xs : List Int32) (args : Array Value) (s : State) : Prop := args = #[.ref b] ∧ s.IntsAt b xs ∧ xs.length ≤ 2563 ∧ (Jvm.Cond.and given_1 narrow_1).before args s = true
def lw_Q (_ : Array Value) (s : State) (o : Outcome) (t : State) : Prop := o = .returned (some (.int 1)) ∧ Framed s o t [] 600000 7302250
def lw_Z (below : List Frame) (a : Array Value) (s : State) : State → Prop := fun t => ∃ o, t.status = .running ∧ Ended t below o ∧ lw_Q a s o t
/-- the law's own end, with 1 on the stack, nothing written that was there before, its room as the claim has it -/
theorem lw_ret {p : Program} {l : Launch} {e : Env} {s : State} {m : MethodId} {below : List Frame} {meth : Method} {c : Code} {b : Nat} (hx : p.tables.exec = Jvm.exec) (hb : c.code = code) (hr : meth.sig.returnType = ret) (hlocks : meth.locks = false) {pc : Nat} {H : Heap} {ls : Array Slot} (hdg : decode code pc = .ok (.ireturn, 1)) : W p l e room_1 s m #[Value.ref b] below meth c H [] 600000 7302250 (lw_Z below #[Value.ref b] s) (F0 m pc ls [.int 1]) := by
  intro T hT X
  obtain ⟨fs, hret, hrun, hended, hW, hframe⟩ := X.leave (v := some (.int 1)) (hlocks := hlocks) (fun h => by rw [hr] at h; cases h)
  have hmeth' : T.vm.method? m = some meth := X.method'
  refine ⟨T.setFrames fs, ?_, .returned (some (.int 1)), hrun, hended, rfl, ⟨_, rfl⟩, hW, hframe⟩
  jvm_step X.here [X.here.top, hx, hb, hdg, hmeth', hr, ret, narrow_b1]
  (try refine ⟨rfl, ?_⟩); (try refine ⟨rfl, ?_⟩)
  first | (intro acts; rw [hret _ acts rfl rfl rfl]) | rw [hret _ _ rfl rfl rfl]
  exact Steps.refl _
/-- what holds at the law's entry: the machine, the code, the tables' words (any of lw_tbl by 'hts w (by decide +kernel)'), the script of L ints xs at the cell b, what the Statement gives of the start (any of its parts by flat_of_before) -/
def lw_At (p : Program) (s : State) (m : MethodId) (meth : Method) (c : Code) (b L : Nat) (xs : Nat → Int32) : Prop :=
  p.tables.exec = Jvm.exec ∧ c.code = code ∧ meth.sig.returnType = ret ∧ c.maxLocals = 4 ∧ s.vm.findClass R_law = some m.cls ∧ (∀ w ∈ lw_tbl, w.before #[Value.ref b] s = true) ∧ va_X b L xs s s.heap ∧ b < s.heap.size ∧ meth.locks = false ∧ (Jvm.Cond.and given_1 narrow_1).before #[Value.ref b] s = true
def Sim_place (Rel : Me → Prop) : Prop := ∀ (M : Me) (a1 : Int32) (a2 : Int32) (a3 : Int32), Rel M → ∃ (r : Int32) (M2 : Me) (g2 : Sg), f10_place a1 a2 a3 M = some (r, M2) ∧ M2 6 0 1 = M 6 0 1 ∧ f11_place a1 a2 a3 (M2 7 0) = some (r, g2) ∧ Rel (uI M2 7 0 g2)
def Sim_door (Rel : Me → Prop) : Prop := ∀ (M : Me) (a1 : Int32) (a2 : Int32) (a3 : Int32), Rel M → ∃ (r : Int32) (M2 : Me) (g2 : Sg), f10_door a1 a2 a3 M = some (r, M2) ∧ M2 6 0 1 = M 6 0 1 ∧ f11_door a1 a2 a3 (M2 7 0) = some (r, g2) ∧ Rel (uI M2 7 0 g2)
def Sim_rule (Rel : Me → Prop) : Prop := ∀ (M : Me) (a1 : Int32) (a2 : Int32), Rel M → ∃ (r : Int32) (M2 : Me) (g2 : Sg), f10_rule a1 a2 M = some (r, M2) ∧ M2 6 0 1 = M 6 0 1 ∧ f11_rule a1 a2 (M2 7 0) = some (r, g2) ∧ Rel (uI M2 7 0 g2)
def Sim_size (Rel : Me → Prop) : Prop := ∀ (M : Me) (a1 : Int32) (a2 : Int32), Rel M → ∃ (r : Int32) (M2 : Me) (g2 : Sg), f10_size a1 a2 M = some (r, M2) ∧ M2 6 0 1 = M 6 0 1 ∧ f11_size a1 a2 (M2 7 0) = some (r, g2) ∧ Rel (uI M2 7 0 g2)
def Sim_access (Rel : Me → Prop) : Prop := ∀ (M : Me) (a1 : Int32), Rel M → ∃ (r : Int32) (M2 : Me) (g2 : Sg), f10_access a1 M = some (r, M2) ∧ M2 6 0 1 = M 6 0 1 ∧ f11_access a1 (M2 7 0) = some (r, g2) ∧ Rel (uI M2 7 0 g2)
def Sim_run (Rel : Me → Prop) : Prop := ∀ (M : Me) (a1 : Int32) (a2 : Int32) (a3 : Int32), Rel M → ∃ (r : Int32) (M2 : Me) (g2 : Sg), f10_run a1 a2 a3 M = some (r, M2) ∧ M2 6 0 1 = M 6 0 1 ∧ f11_run a1 a2 a3 (M2 7 0) = some (r, g2) ∧ Rel (uI M2 7 0 g2)
def Sim_add (Rel : Me → Prop) : Prop := ∀ (M : Me) (a1 : Int32), Rel M → ∃ (r : Int32) (M2 : Me) (g2 : Sg), f10_add a1 M = some (r, M2) ∧ M2 6 0 1 = M 6 0 1 ∧ f11_add a1 (M2 7 0) = some (r, g2) ∧ Rel (uI M2 7 0 g2)
def Sim_estimate (Rel : Me → Prop) : Prop := ∀ (M : Me) (a1 : Int32), Rel M → ∃ r : Int32, f10_estimate M a1 = some r ∧ f11_estimate (M 7 0) a1 = some r
def Sim_counter (Rel : Me → Prop) : Prop := ∀ (M : Me) (a1 : Int32) (a2 : Int32), Rel M → ∃ r : Int32, f10_counter M a1 a2 = some r ∧ f11_counter (M 7 0) a1 a2 = some r
def Sim_bit (Rel : Me → Prop) : Prop := ∀ (M : Me) (a1 : Int32), Rel M → ∃ r : Int32, f10_bit M a1 = some r ∧ f11_bit (M 7 0) a1 = some r
def Sim_remove (Rel : Me → Prop) : Prop := ∀ (M : Me) (a1 : Int32), Rel M → ∃ (r : Int32) (M2 : Me) (g2 : Sg), f10_remove a1 M = some (r, M2) ∧ M2 6 0 1 = M 6 0 1 ∧ f11_remove a1 (M2 7 0) = some (r, g2) ∧ Rel (uI M2 7 0 g2)
def Sim_where (Rel : Me → Prop) : Prop := ∀ (M : Me) (a1 : Int32), Rel M → ∃ r : Int32, f10_where M a1 = some r ∧ f11_where (M 7 0) a1 = some r
def Sim_key (Rel : Me → Prop) : Prop := ∀ (M : Me) (a1 : Int32) (a2 : Int32), Rel M → ∃ r : Int32, f10_key M a1 a2 = some r ∧ f11_key (M 7 0) a1 a2 = some r
def Sim_about (Rel : Me → Prop) : Prop := ∀ (M : Me) (a1 : Int32), Rel M → ∃ r : Int32, f10_about M a1 = some r ∧ f11_about (M 7 0) a1 = some r
def Sim_trace (Rel : Me → Prop) : Prop := ∀ (M : Me) (a1 : Int32), Rel M → ∃ r : Int32, f10_trace M a1 = some r ∧ f11_trace (M 7 0) a1 = some r
def Sim_replay (Rel : Me → Prop) : Prop := ∀ (M : Me) (a1 : Int32) (a2 : Int32) (a3 : Int32) (a4 : Int32), Rel M → ∃ (r : Int32) (M2 : Me) (g2 : Sg), f10_replay a1 a2 a3 a4 M = some (r, M2) ∧ M2 6 0 1 = M 6 0 1 ∧ f11_replay a1 a2 a3 a4 (M2 7 0) = some (r, g2) ∧ Rel (uI M2 7 0 g2)
def Sim_kept (Rel : Me → Prop) : Prop := ∀ (M : Me) (a1 : Int32), Rel M → ∃ r : Int32, f10_kept M a1 = some r ∧ f11_kept (M 7 0) a1 = some r
def Sim_save (Rel : Me → Prop) : Prop := ∀ (M : Me) (a1 : Int32), Rel M → (∃ (r : Int32) (M2 : Me) (g2 : Sg), f10_save a1 M = some (r, M2) ∧ M2 6 0 1 = M 6 0 1 ∧ f11_save a1 (M2 7 0) = some (r, g2) ∧ Rel (uI M2 7 0 g2)) ∨ (vp_in a1 4 ∧ ¬ M 6 0 1 a1.toNatClampNeg = 1 ∧ ∃ (m3 m4 : Sg) (S2 : Ob) (g2 : Sg), kRows3_B gz = some m3 ∧ kSketch_B (gSk (if (1 : Int32) < (if (M 6 0 0 0) < (4 : Int32) then (M 6 0 0 0) else (4 : Int32)) then (if (M 6 0 0 0) < (4 : Int32) then (M 6 0 0 0) else (4 : Int32)) else (1 : Int32))) = some m4 ∧ f8_copyFrom (M 0) (Sinit m3 m4 (M 6 0 0 1) (M 6 0 0 2)) = some S2 ∧ f11_save a1 (M 7 0) = some (M 0 0 0 3, g2) ∧ Rel (uI (va_up (uC M 6 0 1 (upd (M 6 0 1) a1.toNatClampNeg 1)) (a1.toNatClampNeg + 1) S2) 7 0 g2))
def Sim_load (Rel : Me → Prop) : Prop := ∀ (M : Me) (a1 : Int32), Rel M → ∃ (r : Int32) (M2 : Me) (g2 : Sg), f10_load a1 M = some (r, M2) ∧ M2 6 0 1 = M 6 0 1 ∧ f11_load a1 (M2 7 0) = some (r, g2) ∧ Rel (uI M2 7 0 g2)
def Sim_sound (Rel : Me → Prop) : Prop := ∀ (M : Me), Rel M → ∃ r : Int32, f10_sound M = some r ∧ f11_sound (M 7 0) = some r
set_option maxHeartbeats 4000000 in
theorem cell_ok (l : Launch) (b L : Nat) (xs : Nat → Int32) (k : Int32) (hk : ¬ k < 0) (hL : L < 2147483648) (sz : Nat) : Met l yL_cell (.code yL_cell cL_cell 2 (some .int) :: tk_tb) { frames := 0, cells := 0, slots := 0, locals := 0 } (va_Pc [.ref b, .int k] (fun U => U.heap.size = sz ∧ b < sz ∧ va_X b L xs U U.heap)) (va_Qi (fun (r : Int32) (_ : Unit) => r = if Int32.ofNat L ≤ k then 0 else xs k.toNatClampNeg) (fun _ _ => True) (fun q => sz ≤ q)) 0 0 (fun q => sz ≤ q) := by
  refine Met.ofW (cc := cL_cell) (maxL := 2) (ret := some .int) (by decide) rfl ?_
  intro p e s m args below meth c s₁ B hml hv
  obtain ⟨rfl, hsz, hbl, hX⟩ := hv
  subst hsz
  have hx := B.exec
  have hb := B.bytes
  have hr := B.returns
  have hlk := B.notSynchronized
  have hl := lv_entry [.ref b, .int k] (n := 2) (Nat.le_of_ble_eq_true rfl)
  rw [lg_entry_eq]
  generalize (lg_sl [.ref b, .int k] ++ List.replicate (2 - (lg_sl [.ref b, .int k]).length) Slot.unset).toArray = ls at hl ⊢
  have hl : lv_has ls 2 [(0, .ref b), (1, .int k)] := hl
  have hS : va_S (fun q : Nat => s.heap.size ≤ q) s.heap s.heap [] := va_S.rf
  have hbA : ¬ (fun q : Nat => s.heap.size ≤ q) b := Nat.not_le.mpr hbl
  refine lv_iload_n hx hb dL_cell_0 rfl (lv_at hl 1 rfl) ?_
  refine lv_aload_n hx hb dL_cell_1 rfl (lv_at hl 0 rfl) ?_
  refine va_slen hx hb hX hbl hbA hS dL_cell_2 ?_
  refine lv_icmp_ge (tgt := 12) hx hb dL_cell_3 (by decide) (fun c1 => ?_) (fun c1 => ?_)
  · refine lv_iconst (v := 0) hx hb dL_cell_12 (by decide) ?_
    exact W.iret hx hb hr (fun t ht hW2 => ⟨⟨0, (), rfl, (if_pos c1).symm, trivial⟩, hS.F ht⟩) (fun q hq => nomatch hq) dL_cell_13 hlk
  · have hin : vp_in k L := by
      rcases pk_ix k hL with h | h | ⟨j, hj, rfl⟩
      · exact absurd h hk
      · exact absurd h c1
      · exact vp_in_nI hj hL
    refine lv_aload_n hx hb dL_cell_6 rfl (lv_at hl 0 rfl) ?_
    refine lv_iload_n hx hb dL_cell_7 rfl (lv_at hl 1 rfl) ?_
    refine va_sld hx hb hX hbl hbA hS hin dL_cell_8 ?_
    refine lv_goto (tgt := 13) hx hb dL_cell_9 (by decide) ?_
    exact W.iret hx hb hr (fun t ht hW2 => ⟨⟨_, (), rfl, (if_neg c1).symm, trivial⟩, hS.F ht⟩) (fun q hq => nomatch hq) dL_cell_13 hlk
/-- what the law's loop keeps of the world -/
def LI (cy : Nat → ClassId) (ad : Nat → Nat → Nat → Nat) (ns : List (Nat × Nat × Nat)) (F : Nat → Int32) : Prop :=
  IsSt cy ad ns 0 ∧ IsPl cy ad ns 5 ∧ IsMain cy ad ns 6 0 ∧ IsModel cy ad ns 7 0 ∧ (∀ r, r < 4 → F r = 1 → IsSt cy ad ns (r + 1)) ∧ (∀ r, r < 4 → ¬ F r = 1 → ∀ n ∈ ns, n.1 ≠ r + 1) ∧ (∀ i o, (6, i, o) ∈ ns → i = 0 ∧ o < 2)
theorem LI.over {cy : Nat → ClassId} {ad ad2 : Nat → Nat → Nat → Nat} {ns : List (Nat × Nat × Nat)} {F : Nat → Int32} {u k : Nat} (hk : k < 4) (hu : k + 1 = u) (h : LI cy ad ns F) : LI cy ad2 (ns ++ NSst u) (upd F k 1) := by
  obtain ⟨h0, h5, h6, h7, hS, hN, hx⟩ := h
  have hin : ∀ n ∈ NSst u, n.1 = u := by
    intro n hn
    simp only [NSst, List.mem_cons, List.not_mem_nil, or_false] at hn
    rcases hn with rfl | rfl | rfl | rfl | rfl | rfl | rfl | rfl | rfl | rfl | rfl | rfl | rfl | rfl | rfl | rfl | rfl | rfl | rfl | rfl | rfl | rfl | rfl | rfl | rfl | rfl | rfl | rfl | rfl | rfl <;> rfl
  refine ⟨⟨fun i o x => ct_lt (by decide), fun i o ho => List.mem_append_left _ (h0.2 i o ho)⟩, ⟨fun i o x => rfl, fun i o ho => List.mem_append_left _ (h5.2 i o ho)⟩, ⟨fun o x => rfl, fun o ho => List.mem_append_left _ (h6.2 o ho)⟩, ⟨fun o x => rfl, fun o ho => List.mem_append_left _ (h7.2 o ho)⟩, fun r hr hF => ?_, fun r hr hF n hn => ?_, fun i o hio => ?_⟩
  · by_cases e : r = k
    · subst e
      rw [hu]
      exact ⟨fun i o x => ct_lt (by omega), fun i o ho => List.mem_append_right _ (NSst_in ho (szSt_lt ho))⟩
    · have hF2 : F r = 1 := by simpa [upd, e] using hF
      have h9 := hS r hr hF2
      exact ⟨fun i o x => ct_lt (by omega), fun i o ho => List.mem_append_left _ (h9.2 i o ho)⟩
  · by_cases e : r = k
    · subst e
      exact absurd (by simp [upd]) hF
    · have hF2 : ¬ F r = 1 := by simpa [upd, e] using hF
      rcases List.mem_append.mp hn with h9 | h9
      · exact hN r hr hF2 n h9
      · rw [hin n h9]
        omega
  · rcases List.mem_append.mp hio with h9 | h9
    · exact hx i o h9
    · have := hin _ h9
      have : (6 : Nat) = u := this
      omega
theorem vp_step {i L : Nat} {j : Nat} (h : i + j < L) (hL : L < 2147483648) : vp_in (nI i + nI j) L := by
  rw [nI_add]
  exact vp_in_nI h hL
