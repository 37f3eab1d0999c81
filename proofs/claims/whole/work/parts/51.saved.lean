section XS
variable {p : Program} {l : Launch} {e : Env} {R : Room} {s : State} {m : MethodId} {args : Array Value} {below : List Frame} {meth : Method} {c : Code} {H : Heap} {locs : List Loc} {cells slots : Nat} {Q : State → Prop}
variable {cc : ByteArray} {pc : Nat} {ls : Array Slot} {rest : List Value} {D : va_G} {cy : Nat → ClassId} {ad : Nat → Nat → Nat → Nat} {ns : List (Nat × Nat × Nat)} {A : Nat → Prop} {H0 : Heap} {M : Me}
theorem x_aals1 (hx : p.tables.exec = Jvm.exec) (hb : c.code = cc) (hK : va_K D vwCl (tyl cy) s) (hI6 : IsMain cy ad ns 6 0) (hW : Wl D cy ad ns A H0 M H locs) {j : Int32} (hin : vp_in j 4) (h1 : M 6 0 1 j.toNatClampNeg = 1) (hdg : decode cc pc = .ok (.aaload, 1))
    (kk : W p l e R s m args below meth c H locs cells slots Q (F0 m (pc + 1) ls (.ref (ad (j.toNatClampNeg + 1) 0 0) :: rest))) : W p l e R s m args below meth c H locs cells slots Q (F0 m pc ls (.int j :: .ref (ad 6 0 1) :: rest)) := by
  obtain ⟨q, h⟩ := wl_get (cy := cy) (ad := ad) (M := M) (hI6.2 1 (by decide))
  rw [hI6.1] at h
  have hlt : j.toNatClampNeg < 4 := vp_lt hin
  have h : (wl cy ad ns M)[q]? = some (ad 6 0 1, .inl (cy 3, 4, rA (fun r => if r < 4 then (if M 6 0 1 r = 1 then some (ad (r + 1) 0 0) else none) else none))) := h
  have e : Value.ref (ad (j.toNatClampNeg + 1) 0 0) = va_rf ((fun r => if r < 4 then (if M 6 0 1 r = 1 then some (ad (r + 1) 0 0) else none) else none) j.toNatClampNeg) := by simp [hlt, h1, va_rf]
  rw [e] at kk
  exact va_aldq hx hb hK hW.1 q 3 h rfl hin hdg kk
theorem x_aals0 (hx : p.tables.exec = Jvm.exec) (hb : c.code = cc) (hK : va_K D vwCl (tyl cy) s) (hI6 : IsMain cy ad ns 6 0) (hW : Wl D cy ad ns A H0 M H locs) {j : Int32} (hin : vp_in j 4) (h1 : ¬ M 6 0 1 j.toNatClampNeg = 1) (hdg : decode cc pc = .ok (.aaload, 1))
    (kk : W p l e R s m args below meth c H locs cells slots Q (F0 m (pc + 1) ls (.null :: rest))) : W p l e R s m args below meth c H locs cells slots Q (F0 m pc ls (.int j :: .ref (ad 6 0 1) :: rest)) := by
  obtain ⟨q, h⟩ := wl_get (cy := cy) (ad := ad) (M := M) (hI6.2 1 (by decide))
  rw [hI6.1] at h
  have h : (wl cy ad ns M)[q]? = some (ad 6 0 1, .inl (cy 3, 4, rA (fun r => if r < 4 then (if M 6 0 1 r = 1 then some (ad (r + 1) 0 0) else none) else none))) := h
  have e : Value.null = va_rf ((fun r => if r < 4 then (if M 6 0 1 r = 1 then some (ad (r + 1) 0 0) else none) else none) j.toNatClampNeg) := by simp [h1, va_rf]
  rw [e] at kk
  exact va_aldq hx hb hK hW.1 q 3 h rfl hin hdg kk
end XS
