/-! THE WORLD OF THE SYSTEM: every cell has a name (t, i, o): t a group, i an instance in it, o a cell of the instance. Its data is M t i o : Nat → Int32 (the elements of an array, the int fields of an object by their slots); its references never change. -/
abbrev Sg : Type := Nat → Nat → Int32
abbrev Ob : Type := Nat → Nat → Nat → Int32
abbrev Me : Type := Nat → Nat → Nat → Nat → Int32
def uI (M : Me) (t i : Nat) (g : Sg) : Me := va_up M t (va_up (M t) i g)
def uC (M : Me) (t i o : Nat) (x : Nat → Int32) : Me := uI M t i (va_up (M t i) o x)
theorem up_uu {α : Type} (f : Nat → α) (k : Nat) (v w : α) : va_up (va_up f k v) k w = va_up f k w := by
  funext j
  by_cases h : j = k <;> simp [va_up, h]
theorem up_id {α : Type} (f : Nat → α) (k : Nat) : va_up f k (f k) = f := by
  funext j
  by_cases h : j = k <;> simp [va_up, h]
theorem uI_at {M : Me} {t i : Nat} {g : Sg} : uI M t i g t i = g := by simp [uI, va_up]
theorem uI_uI {M : Me} {t i : Nat} {g g2 : Sg} : uI (uI M t i g) t i g2 = uI M t i g2 := by
  unfold uI
  rw [va_up_self, up_uu, up_uu]
theorem uI_id {M : Me} {t i : Nat} : uI M t i (M t i) = M := by
  unfold uI
  rw [up_id, up_id]
theorem uI_ne {M : Me} {t i u : Nat} {g : Sg} (h : u ≠ t) : uI M t i g u = M u := by
  unfold uI
  rw [va_up_ne _ _ h]
theorem uI_grp {M : Me} {t i : Nat} {S : Ob} {g : Sg} : uI (va_up M t S) t i g = va_up M t (va_up S i g) := by
  unfold uI
  rw [va_up_self, up_uu]
theorem uC_leaf {M : Me} {t i o : Nat} {g : Sg} {x : Nat → Int32} : uC (uI M t i g) t i o x = uI M t i (va_up g o x) := by
  unfold uC
  rw [uI_uI, uI_at]
theorem uC_grp {M : Me} {t i o : Nat} {S : Ob} {x : Nat → Int32} : uC (va_up M t S) t i o x = va_up M t (va_up S i (va_up (S i) o x)) := by
  unfold uC
  rw [uI_grp, va_up_self]
theorem uC_at {M : Me} {t i o : Nat} {x : Nat → Int32} : uC M t i o x t i o = x := by simp [uC, uI, va_up]
theorem uC_ne {M : Me} {t i o t2 i2 o2 : Nat} {x : Nat → Int32} (h : (t2, i2, o2) ≠ (t, i, o)) : uC M t i o x t2 i2 o2 = M t2 i2 o2 := by
  unfold uC uI
  by_cases h1 : t2 = t
  · subst h1
    rw [va_up_self]
    by_cases h2 : i2 = i
    · subst h2
      rw [va_up_self, va_up_ne]
      intro h3
      subst h3
      exact h rfl
    · rw [va_up_ne _ _ h2]
  · rw [va_up_ne _ _ h1]
/-! what each cell is -/
abbrev rA (f : Nat → Option Nat) : (Nat → Int32) ⊕ (Nat → Int64) ⊕ (Nat → UInt32) ⊕ (Nat → UInt64) ⊕ (Nat → Option Nat) := .inr (.inr (.inr (.inr f)))
def rO (n : Nat) (f : Nat → Nat) : Nat → Option Nat := fun r => if r < n then some (f r) else none
def ctRows (cy : Nat → ClassId) (ad : Nat → Nat → Nat → Nat) (n t i o : Nat) (x : Nat → Int32) : va_E := match o with
  | 0 => .inr (4, [.ref (ad t i 1), .ref (ad t i 2), .ref (ad t i 3), .ref (ad t i 4), .ref (ad t i 5)])
  | 1 => .inl (cy 4, n, rA (rO n (fun r => ad t i (r + 6))))
  | 2 => .inl (cy 0, n, .inl x)
  | 3 => .inl (cy 0, n, .inl x)
  | _ + 4 => .inl (cy 0, 100, .inl x)
def ctSketch (cy : Nat → ClassId) (ad : Nat → Nat → Nat → Nat) (t i o : Nat) (x : Nat → Int32) : va_E := match o with
  | 0 => .inr (6, [.ref (ad t i 1), .ref (ad t i 2), .ref (ad t i 3), .ref (ad t i 4), .ref (ad t i 5), .int (x 5), .int (x 6), .int (x 7), .int (x 8), .int (x 9), .int (x 10)])
  | 1 => .inl (cy 4, 4, rA (rO 4 (fun r => ad t i (r + 6))))
  | 2 => .inl (cy 0, 128, .inl x)
  | 3 => .inl (cy 4, 4, rA (rO 4 (fun r => ad t i (r + 10))))
  | 4 => .inl (cy 4, 2, rA (rO 2 (fun r => ad t i (r + 14))))
  | 5 => .inl (cy 0, 100, .inl x)
  | k + 6 => .inl (cy 0, if k < 4 then 64 else 100, .inl x)
def ctCache (ad : Nat → Nat → Nat → Nat) (t : Nat) (x : Nat → Int32) : va_E := .inr (0, [.ref (ad t 2 0), .ref (ad t 3 0), .int (x 2), .int (x 3), .int (x 4), .int (x 5)])
def ctState (ad : Nat → Nat → Nat → Nat) (t : Nat) (x : Nat → Int32) : va_E := .inr (7, [.ref (ad t 1 0), .ref (ad t 4 0), .ref (ad t 5 0), .int (x 3), .int (x 4)])
def ctTrace (cy : Nat → ClassId) (ad : Nat → Nat → Nat → Nat) (t i o : Nat) (x : Nat → Int32) : va_E := match o with
  | 0 => .inr (8, [.ref (ad t i 1), .int (x 1), .int (x 2)])
  | _ + 1 => .inl (cy 0, 300, .inl x)
def ctClimb (x : Nat → Int32) : va_E := .inr (1, [.int (x 0), .int (x 1), .int (x 2), .int (x 3), .int (x 4), .int (x 5)])
def ctSeats (cy : Nat → ClassId) (ad : Nat → Nat → Nat → Nat) (t i o : Nat) (x : Nat → Int32) : va_E := match o with
  | 0 => .inr (5, [.int (x 0), .ref (ad t i 1), .ref (ad t i 2), .ref (ad t i 3), .ref (ad t i 4), .ref (ad t i 5), .ref (ad t i 6), .int (x 7), .int (x 8), .int (x 9)])
  | _ + 1 => .inl (cy 0, 30, .inl x)
def ctFour (ad : Nat → Nat → Nat → Nat) (t : Nat) (x : Nat → Int32) : va_E := .inr (2, [.ref (ad t 7 0), .int (x 1), .int (x 2)])
def ctPlayer (cy : Nat → ClassId) (ad : Nat → Nat → Nat → Nat) (t i o : Nat) (x : Nat → Int32) : va_E := match o with
  | 0 => .inr (3, [.ref (ad t i 1), .ref (ad t i 2), .ref (ad t i 3), .ref (ad t i 4), .int (x 4)])
  | 1 => .inl (cy 2, 6, rA (rO 6 (fun r => ad t (r + 1) 0)))
  | 2 => .inl (cy 0, 300, .inl x)
  | 3 => .inl (cy 0, 100, .inl x)
  | _ + 4 => .inl (cy 0, 30, .inl x)
def ctMain (cy : Nat → ClassId) (ad : Nat → Nat → Nat → Nat) (t i o : Nat) (x : Nat → Int32) : va_E := match o with
  | 0 => .inr (9, [.int (x 0), .int (x 1), .int (x 2), .ref (ad 0 0 0), .ref (ad t i 1), .ref (ad 5 0 0)])
  | _ + 1 => .inl (cy 3, 4, rA (fun r => if r < 4 then (if x r = 1 then some (ad (r + 1) 0 0) else none) else none))
def ctModel (cy : Nat → ClassId) (ad : Nat → Nat → Nat → Nat) (t i o : Nat) (x : Nat → Int32) : va_E := match o with
  | 0 => .inr (10, [.int (x 0), .int (x 1), .ref (ad t i 1), .ref (ad t i 2), .ref (ad t i 3), .ref (ad t i 4), .int (x 6), .ref (ad t i 5), .ref (ad t i 6), .ref (ad t i 7), .ref (ad t i 8), .ref (ad t i 9), .int (x 12), .int (x 13), .ref (ad t i 10), .ref (ad t i 11), .int (x 16)])
  | 1 => .inl (cy 0, 1805, .inl x)
  | 2 => .inl (cy 0, 7220, .inl x)
  | 3 => .inl (cy 1, 4, .inl x)
  | 4 => .inl (cy 0, 100, .inl x)
  | 5 => .inl (cy 0, 30, .inl x)
  | 6 => .inl (cy 1, 30, .inl x)
  | 7 => .inl (cy 0, 30, .inl x)
  | 8 => .inl (cy 0, 30, .inl x)
  | 9 => .inl (cy 0, 30, .inl x)
  | 10 => .inl (cy 0, 256, .inl x)
  | _ + 11 => .inl (cy 0, 4, .inl x)
/-- the cells of a State's group: 0 itself, 1 its cache, 2 the sketch, 3 the parts, 4 the trace, 5 the climb -/
def ctSt (cy : Nat → ClassId) (ad : Nat → Nat → Nat → Nat) (t i o : Nat) (x : Nat → Int32) : va_E := match i with
  | 0 => ctState ad t x
  | 1 => ctCache ad t x
  | 2 => ctSketch cy ad t 2 o x
  | 3 => ctRows cy ad 3 t 3 o x
  | 4 => ctTrace cy ad t 4 o x
  | _ + 5 => ctClimb x
def szSt (i : Nat) : Nat := match i with
  | 0 => 1
  | 1 => 1
  | 2 => 16
  | 3 => 9
  | 4 => 2
  | 5 => 1
  | _ => 0
/-- the player's group: 0 itself, 1 to 5 the seats, 6 the four rows, 7 their rows -/
def ctPl (cy : Nat → ClassId) (ad : Nat → Nat → Nat → Nat) (t i o : Nat) (x : Nat → Int32) : va_E := match i with
  | 0 => ctPlayer cy ad t 0 o x
  | 6 => ctFour ad t x
  | 7 => ctRows cy ad 4 t 7 o x
  | k => ctSeats cy ad t k o x
def szPl (i : Nat) : Nat := match i with
  | 0 => 5
  | 1 => 7
  | 2 => 7
  | 3 => 7
  | 4 => 7
  | 5 => 7
  | 6 => 1
  | 7 => 10
  | _ => 0
def ctA (cy : Nat → ClassId) (ad : Nat → Nat → Nat → Nat) (t i o : Nat) (x : Nat → Int32) : va_E :=
  if t < 5 then ctSt cy ad t i o x else if t = 5 then ctPl cy ad t i o x else if t = 6 then ctMain cy ad t i o x else ctModel cy ad t i o x
def wl (cy : Nat → ClassId) (ad : Nat → Nat → Nat → Nat) (ns : List (Nat × Nat × Nat)) (M : Me) : va_W := ns.map (fun n => (ad n.1 n.2.1 n.2.2, ctA cy ad n.1 n.2.1 n.2.2 (M n.1 n.2.1 n.2.2)))
abbrev tyl (cy : Nat → ClassId) : List (ClassId × FieldType) := [(cy 0, .int), (cy 1, .boolean), (cy 2, .object "SketchCache$Policy"), (cy 3, .object "SketchCache$State"), (cy 4, .array .int)]
theorem wl_get {cy : Nat → ClassId} {ad : Nat → Nat → Nat → Nat} {ns : List (Nat × Nat × Nat)} {M : Me} {t i o : Nat} (h : (t, i, o) ∈ ns) : ∃ q : Nat, (wl cy ad ns M)[q]? = some (ad t i o, ctA cy ad t i o (M t i o)) :=
  List.getElem?_of_mem (List.mem_map.mpr ⟨(t, i, o), h, rfl⟩)
theorem wl_at {cy : Nat → ClassId} {ad : Nat → Nat → Nat → Nat} {ns : List (Nat × Nat × Nat)} {M : Me} {q : Nat} {z : Nat × va_E} (h : (wl cy ad ns M)[q]? = some z) : ∃ n, ns[q]? = some n ∧ z = (ad n.1 n.2.1 n.2.2, ctA cy ad n.1 n.2.1 n.2.2 (M n.1 n.2.1 n.2.2)) := by
  unfold wl at h
  rw [List.getElem?_map] at h
  cases hn : ns[q]? with
  | none => rw [hn] at h; cases h
  | some n => rw [hn] at h; exact ⟨n, rfl, (Option.some.inj h).symm⟩
theorem wl_set {cy : Nat → ClassId} {ad : Nat → Nat → Nat → Nat} {ns : List (Nat × Nat × Nat)} {M : Me} {A : Nat → Prop} {t i o q : Nat} {e0 : va_E} {x : Nat → Int32} (hD : va_D A (wl cy ad ns M)) (hn : (t, i, o) ∈ ns) (hq : (wl cy ad ns M)[q]? = some (ad t i o, e0)) :
    (wl cy ad ns M).set q (ad t i o, ctA cy ad t i o x) = wl cy ad ns (uC M t i o x) := by
  have hl := (List.getElem?_eq_some_iff.mp hq).1
  obtain ⟨q2, hq2⟩ := List.getElem?_of_mem hn
  have hw2 : (wl cy ad ns M)[q2]? = some (ad t i o, ctA cy ad t i o (M t i o)) := by
    unfold wl
    rw [List.getElem?_map, hq2]
    rfl
  have hqq : q = q2 := hD.1 q q2 _ _ hq hw2 rfl
  subst hqq
  apply List.ext_getElem?
  intro j
  by_cases hj : j = q
  · subst hj
    rw [List.getElem?_set_self hl]
    unfold wl
    rw [List.getElem?_map, hq2]
    show _ = some (ad t i o, ctA cy ad t i o (uC M t i o x t i o))
    rw [uC_at]
  · rw [List.getElem?_set_ne (Ne.symm hj)]
    unfold wl
    rw [List.getElem?_map, List.getElem?_map]
    cases hb : ns[j]? with
    | none => rfl
    | some n =>
      show some (ad n.1 n.2.1 n.2.2, ctA cy ad n.1 n.2.1 n.2.2 (M n.1 n.2.1 n.2.2)) = some (ad n.1 n.2.1 n.2.2, ctA cy ad n.1 n.2.1 n.2.2 (uC M t i o x n.1 n.2.1 n.2.2))
      rw [uC_ne]
      intro hn2
      have hn3 : n = (t, i, o) := hn2
      subst hn3
      exact hj (hD.1 j q _ _ (show (wl cy ad ns M)[j]? = some (ad t i o, ctA cy ad t i o (M t i o)) by unfold wl; rw [List.getElem?_map, hb]; rfl) hq rfl)
/-- the cells that a method may change -/
def Aw (ad : Nat → Nat → Nat → Nat) (ns : List (Nat × Nat × Nat)) (sz : Nat) : Nat → Prop := fun q => (∃ n ∈ ns, q = ad n.1 n.2.1 n.2.2) ∨ sz ≤ q
/-- the world at a place of a walk -/
def Wl (D : va_G) (cy : Nat → ClassId) (ad : Nat → Nat → Nat → Nat) (ns : List (Nat × Nat × Nat)) (A : Nat → Prop) (H0 : Heap) (M : Me) (H : Heap) (locs : List Loc) : Prop :=
  va_P D vwCl (wl cy ad ns M) H ∧ va_D A (wl cy ad ns M) ∧ va_S A H0 H locs
def Wo (D : va_G) (cy : Nat → ClassId) (ad : Nat → Nat → Nat → Nat) (ns : List (Nat × Nat × Nat)) (M : Me) (U : State) : Prop :=
  va_P D vwCl (wl cy ad ns M) U.heap ∧ va_K D vwCl (tyl cy) U ∧ va_D (fun _ => True) (wl cy ad ns M)
def Ci (l : Launch) (y : MethodName) (ws : List Cond) (rm : Room) (D : va_G) (cy : Nat → ClassId) (ad : Nat → Nat → Nat → Nat) (ns : List (Nat × Nat × Nat)) (As : List Value) (M : Me) (r : Int32) (M2 : Me) : Prop :=
  ∀ sz : Nat, Met l y ws rm (va_Pc As (fun U => U.heap.size = sz ∧ Wo D cy ad ns M U)) (va_Qi (fun (r2 : Int32) (N : Me) => r2 = r ∧ N = M2) (fun N U => Wo D cy ad ns N U) (Aw ad ns sz)) 0 0 (Aw ad ns sz)
def Cv (l : Launch) (y : MethodName) (ws : List Cond) (rm : Room) (D : va_G) (cy : Nat → ClassId) (ad : Nat → Nat → Nat → Nat) (ns : List (Nat × Nat × Nat)) (As : List Value) (M : Me) (M2 : Me) : Prop :=
  ∀ sz : Nat, Met l y ws rm (va_Pc As (fun U => U.heap.size = sz ∧ Wo D cy ad ns M U)) (va_Qv (fun (N : Me) => N = M2) (fun N U => Wo D cy ad ns N U) (Aw ad ns sz)) 0 0 (Aw ad ns sz)
theorem wl_apart {cy : Nat → ClassId} {ad : Nat → Nat → Nat → Nat} {ns : List (Nat × Nat × Nat)} {M M2 : Me} {A B : Nat → Prop} (hD : va_D A (wl cy ad ns M)) (hB : ∀ n ∈ ns, B (ad n.1 n.2.1 n.2.2)) : va_D B (wl cy ad ns M2) := by
  refine ⟨fun a b x y hx hy hxy => ?_, fun k q hk => ?_⟩
  · obtain ⟨n1, h1, e1⟩ := wl_at hx
    obtain ⟨n2, h2, e2⟩ := wl_at hy
    subst e1
    subst e2
    exact hD.1 a b _ _ (show (wl cy ad ns M)[a]? = some (ad n1.1 n1.2.1 n1.2.2, ctA cy ad n1.1 n1.2.1 n1.2.2 (M n1.1 n1.2.1 n1.2.2)) by unfold wl; rw [List.getElem?_map, h1]; rfl) (show (wl cy ad ns M)[b]? = some (ad n2.1 n2.2.1 n2.2.2, ctA cy ad n2.1 n2.2.1 n2.2.2 (M n2.1 n2.2.1 n2.2.2)) by unfold wl; rw [List.getElem?_map, h2]; rfl) hxy
  · obtain ⟨n1, h1, e1⟩ := wl_at hk
    subst e1
    exact hB n1 (List.mem_of_getElem? h1)
theorem Wl.in {D : va_G} {cy : Nat → ClassId} {ad : Nat → Nat → Nat → Nat} {ns : List (Nat × Nat × Nat)} {A : Nat → Prop} {H0 : Heap} {M : Me} {H : Heap} {locs : List Loc} (h : Wl D cy ad ns A H0 M H locs) : ∀ n ∈ ns, A (ad n.1 n.2.1 n.2.2) := by
  intro n hn
  obtain ⟨q, hq⟩ := wl_get (cy := cy) (ad := ad) (M := M) (t := n.1) (i := n.2.1) (o := n.2.2) hn
  exact h.2.1.2 q _ hq
