/-! rewriting with numbers: literals and nI -/
theorem lit (n : Nat) : (OfNat.ofNat n : Int32) = nI n := rfl
theorem ltp {a b : Nat} (ha : a < 1000000) (hb : b < 1000000) : (nI a < nI b) = (a < b) := propext (nI_ltI (p31 ha) (p31 hb))
theorem lep {a b : Nat} (ha : a < 1000000) (hb : b < 1000000) : (nI a ≤ nI b) = (a ≤ b) := propext (nI_leI (p31 ha) (p31 hb))
theorem eqp {a b : Nat} (ha : a < 1000000) (hb : b < 1000000) : (nI a = nI b) = (a = b) := propext (nI_eq (p31 ha) (p31 hb))
theorem nI_nm1 {a : Nat} (ha : a < 1000000) : ¬ nI a = (-1 : Int32) := fun h => nI_pos (p31 ha) (by rw [h]; decide)
theorem m1p {a : Nat} (ha : a < 1000000) : (nI a = -nI 1) = False := eq_false (nI_nm1 ha)
theorem m1l : (-nI 1 < nI 0) = True := eq_true (by decide)
theorem m1e : (0 ≤ -nI 1) = False := eq_false (by decide)
theorem m1a {a : Nat} (h : 0 < a) : nI a + -nI 1 = nI (a - 1) := sb_m1 h
theorem dvp {a b : Nat} (ha : a < 1000000) (h0 : 0 < b) (hb : b < 1000000) : nI a / nI b = nI (a / b) := pk_div (p31 ha) h0 (p31 hb)
theorem nzp {α : Type} {d : Nat} {k : Option α} (h : 0 < d) (h2 : d < 1000000) : nz (nI d) k = k := if_neg (nI_ne0 h (p31 h2))
theorem up_x {α : Type} {f : Nat → α} {k : Nat} {v w : α} : va_up (va_up f k v) k w = va_up f k w := up_uu f k v w
theorem up_01 {α : Type} {f : Nat → α} {v : α} : va_up f 1 v 0 = f 0 := up_n (by decide)
theorem z_0 : (0 : Int32) = nI 0 := rfl
theorem z_1 : (1 : Int32) = nI 1 := rfl
theorem z_2 : (2 : Int32) = nI 2 := rfl
theorem z_3 : (3 : Int32) = nI 3 := rfl
theorem z_4 : (4 : Int32) = nI 4 := rfl
theorem z_5 : (5 : Int32) = nI 5 := rfl
theorem z_10 : (10 : Int32) = nI 10 := rfl
theorem z_11 : (11 : Int32) = nI 11 := rfl
theorem z_15 : (15 : Int32) = nI 15 := rfl
theorem z_20 : (20 : Int32) = nI 20 := rfl
theorem z_30 : (30 : Int32) = nI 30 := rfl
theorem z_63 : (63 : Int32) = nI 63 := rfl
theorem z_64 : (64 : Int32) = nI 64 := rfl
theorem z_99 : (99 : Int32) = nI 99 := rfl
theorem z_100 : (100 : Int32) = nI 100 := rfl
theorem z_127 : (127 : Int32) = nI 127 := rfl
theorem z_128 : (128 : Int32) = nI 128 := rfl
theorem z_200 : (200 : Int32) = nI 200 := rfl
theorem z_256 : (256 : Int32) = nI 256 := rfl
theorem z_300 : (300 : Int32) = nI 300 := rfl
theorem z_400 : (400 : Int32) = nI 400 := rfl
theorem z_500 : (500 : Int32) = nI 500 := rfl
theorem z_600 : (600 : Int32) = nI 600 := rfl
theorem z_601 : (601 : Int32) = nI 601 := rfl
theorem z_602 : (602 : Int32) = nI 602 := rfl
theorem z_603 : (603 : Int32) = nI 603 := rfl
theorem z_604 : (604 : Int32) = nI 604 := rfl
theorem z_605 : (605 : Int32) = nI 605 := rfl
theorem z_606 : (606 : Int32) = nI 606 := rfl
theorem z_862 : (862 : Int32) = nI 862 := rfl
theorem z_990 : (990 : Int32) = nI 990 := rfl
theorem z_1000 : (1000 : Int32) = nI 1000 := rfl
theorem z_1090 : (1090 : Int32) = nI 1090 := rfl
theorem z_1390 : (1390 : Int32) = nI 1390 := rfl
theorem z_1393 : (1393 : Int32) = nI 1393 := rfl
theorem z_1394 : (1394 : Int32) = nI 1394 := rfl
theorem z_1395 : (1395 : Int32) = nI 1395 := rfl
theorem z_1396 : (1396 : Int32) = nI 1396 := rfl
theorem z_1397 : (1397 : Int32) = nI 1397 := rfl
theorem z_1398 : (1398 : Int32) = nI 1398 := rfl
theorem z_1399 : (1399 : Int32) = nI 1399 := rfl
theorem z_1400 : (1400 : Int32) = nI 1400 := rfl
theorem z_1401 : (1401 : Int32) = nI 1401 := rfl
theorem z_1402 : (1402 : Int32) = nI 1402 := rfl
theorem z_1403 : (1403 : Int32) = nI 1403 := rfl
theorem z_1404 : (1404 : Int32) = nI 1404 := rfl
theorem z_1405 : (1405 : Int32) = nI 1405 := rfl
theorem z_1705 : (1705 : Int32) = nI 1705 := rfl
theorem z_1805 : (1805 : Int32) = nI 1805 := rfl
theorem z_7220 : (7220 : Int32) = nI 7220 := rfl
