/-- the words that stay good at every later state -/
def tk_tb : List Cond := lw_tbl.filter goodWord
theorem tk_in {w : Cond} (h : w ∈ lw_tbl) (hg : goodWord w = true) : w ∈ tk_tb := List.mem_filter.mpr ⟨h, hg⟩
theorem tk_good : ∀ w ∈ tk_tb, w ∈ lw_tbl ∧ ((w.onTables && w.keeps) = true ∨ ∃ ty, w = .arrayClass ty) := fun w h => ⟨(List.mem_filter.mp h).1, good_of_word (List.mem_filter.mp h).2⟩
set_option maxRecDepth 20000 in
theorem t_0 : (Jvm.Cond.initialized "SketchCacheLaw") ∈ tk_tb := tk_in (List.mem_append_right _ (List.mem_of_getElem? (i := 0) (by decide +kernel))) rfl
set_option maxRecDepth 20000 in
theorem t_1 : (Jvm.Cond.initialized "SketchCache") ∈ tk_tb := tk_in (List.mem_append_right _ (List.mem_of_getElem? (i := 1) (by decide +kernel))) rfl
set_option maxRecDepth 20000 in
theorem t_2 : (Jvm.Cond.initialized "SketchCache$Player") ∈ tk_tb := tk_in (List.mem_append_right _ (List.mem_of_getElem? (i := 2) (by decide +kernel))) rfl
set_option maxRecDepth 20000 in
theorem t_3 : (Jvm.Cond.initialized "SketchCache$Policy") ∈ tk_tb := tk_in (List.mem_append_right _ (List.mem_of_getElem? (i := 3) (by decide +kernel))) rfl
set_option maxRecDepth 20000 in
theorem t_4 : (Jvm.Cond.initialized "SketchCache$Seats") ∈ tk_tb := tk_in (List.mem_append_right _ (List.mem_of_getElem? (i := 4) (by decide +kernel))) rfl
set_option maxRecDepth 20000 in
theorem t_5 : (Jvm.Cond.initialized "SketchCache$FourRows") ∈ tk_tb := tk_in (List.mem_append_right _ (List.mem_of_getElem? (i := 5) (by decide +kernel))) rfl
set_option maxRecDepth 20000 in
theorem t_6 : (Jvm.Cond.initialized "SketchCache$Rows") ∈ tk_tb := tk_in (List.mem_append_right _ (List.mem_of_getElem? (i := 6) (by decide +kernel))) rfl
set_option maxRecDepth 20000 in
theorem t_7 : (Jvm.Cond.initialized "java/lang/Math") ∈ tk_tb := tk_in (List.mem_append_right _ (List.mem_of_getElem? (i := 7) (by decide +kernel))) rfl
set_option maxRecDepth 20000 in
theorem t_8 : (Jvm.Cond.initialized "java/util/Arrays") ∈ tk_tb := tk_in (List.mem_append_right _ (List.mem_of_getElem? (i := 8) (by decide +kernel))) rfl
set_option maxRecDepth 20000 in
theorem t_9 : (Jvm.Cond.initialized "SketchCache$State") ∈ tk_tb := tk_in (List.mem_append_right _ (List.mem_of_getElem? (i := 9) (by decide +kernel))) rfl
set_option maxRecDepth 20000 in
theorem t_10 : (Jvm.Cond.initialized "SketchCache$Trace") ∈ tk_tb := tk_in (List.mem_append_right _ (List.mem_of_getElem? (i := 10) (by decide +kernel))) rfl
set_option maxRecDepth 20000 in
theorem t_11 : (Jvm.Cond.initialized "SketchCache$Climb") ∈ tk_tb := tk_in (List.mem_append_right _ (List.mem_of_getElem? (i := 11) (by decide +kernel))) rfl
set_option maxRecDepth 20000 in
theorem t_12 : (Jvm.Cond.initialized "SketchCache$Cache") ∈ tk_tb := tk_in (List.mem_append_right _ (List.mem_of_getElem? (i := 12) (by decide +kernel))) rfl
set_option maxRecDepth 20000 in
theorem t_13 : (Jvm.Cond.initialized "SketchCache$Sketch") ∈ tk_tb := tk_in (List.mem_append_right _ (List.mem_of_getElem? (i := 13) (by decide +kernel))) rfl
set_option maxRecDepth 20000 in
theorem t_14 : (Jvm.Cond.initialized "SketchCacheModel") ∈ tk_tb := tk_in (List.mem_append_right _ (List.mem_of_getElem? (i := 14) (by decide +kernel))) rfl
set_option maxRecDepth 20000 in
theorem t_15 : (Jvm.Cond.initialized "java/lang/System") ∈ tk_tb := tk_in (List.mem_append_right _ (List.mem_of_getElem? (i := 15) (by decide +kernel))) rfl
set_option maxRecDepth 20000 in
theorem t_16 : (Jvm.Cond.classLink "SketchCacheLaw" (7 : Nat) "SketchCache") ∈ tk_tb := tk_in (List.mem_append_right _ (List.mem_of_getElem? (i := 16) (by decide +kernel))) rfl
set_option maxRecDepth 20000 in
theorem t_17 : (Jvm.Cond.instantiable "SketchCache" (6 : Nat)) ∈ tk_tb := tk_in (List.mem_append_right _ (List.mem_of_getElem? (i := 17) (by decide +kernel))) rfl
set_option maxRecDepth 20000 in
theorem t_18 : (Jvm.Cond.methodLink "SketchCacheLaw" (15 : Nat) ({ cls := "SketchCache", name := "<init>", desc := "(III)V" } : Jvm.MethodName)) ∈ tk_tb := tk_in (List.mem_append_right _ (List.mem_of_getElem? (i := 18) (by decide +kernel))) rfl
set_option maxRecDepth 20000 in
theorem t_19 : (Jvm.Cond.instanceMethod ({ cls := "SketchCache", name := "<init>", desc := "(III)V" } : Jvm.MethodName)) ∈ tk_tb := tk_in (List.mem_append_right _ (List.mem_of_getElem? (i := 19) (by decide +kernel))) rfl
set_option maxRecDepth 20000 in
theorem t_20 : (Jvm.Cond.code ({ cls := "SketchCache", name := "<init>", desc := "(III)V" } : Jvm.MethodName) prog_1_method_1_code (4 : Nat) (Option.none : Option Jvm.ClassFile.FieldType)) ∈ tk_tb := tk_in (List.mem_append_right _ (List.mem_of_getElem? (i := 20) (rfl))) rfl
set_option maxRecDepth 20000 in
theorem t_21 : (Jvm.Cond.methodLink "SketchCache" (1 : Nat) ({ cls := "java/lang/Object", name := "<init>", desc := "()V" } : Jvm.MethodName)) ∈ tk_tb := tk_in (List.mem_append_right _ (List.mem_of_getElem? (i := 21) (by decide +kernel))) rfl
set_option maxRecDepth 20000 in
theorem t_22 : (Jvm.Cond.instanceMethod ({ cls := "java/lang/Object", name := "<init>", desc := "()V" } : Jvm.MethodName)) ∈ tk_tb := tk_in (List.mem_append_right _ (List.mem_of_getElem? (i := 22) (by decide +kernel))) rfl
set_option maxRecDepth 20000 in
theorem t_23 : (Jvm.Cond.code ({ cls := "java/lang/Object", name := "<init>", desc := "()V" } : Jvm.MethodName) object_method_1_code (1 : Nat) (Option.none : Option Jvm.ClassFile.FieldType)) ∈ tk_tb := tk_in (List.mem_append_right _ (List.mem_of_getElem? (i := 23) (rfl))) rfl
set_option maxRecDepth 20000 in
theorem t_24 : (Jvm.Cond.classLink "SketchCache" (9 : Nat) "SketchCache$State") ∈ tk_tb := tk_in (List.mem_append_right _ (List.mem_of_getElem? (i := 24) (by decide +kernel))) rfl
set_option maxRecDepth 20000 in
theorem q_25 : (Jvm.Cond.arrayOver (Jvm.ClassFile.FieldType.object "SketchCache$State")) ∈ lw_tbl := List.mem_append_right _ (List.mem_of_getElem? (i := 25) (by decide +kernel))
set_option maxRecDepth 20000 in
theorem t_26 : (Jvm.Cond.classLink "SketchCache" (15 : Nat) "SketchCache$Player") ∈ tk_tb := tk_in (List.mem_append_right _ (List.mem_of_getElem? (i := 26) (by decide +kernel))) rfl
set_option maxRecDepth 20000 in
theorem t_27 : (Jvm.Cond.instantiable "SketchCache$Player" (5 : Nat)) ∈ tk_tb := tk_in (List.mem_append_right _ (List.mem_of_getElem? (i := 27) (by decide +kernel))) rfl
set_option maxRecDepth 20000 in
theorem t_28 : (Jvm.Cond.methodLink "SketchCache" (17 : Nat) ({ cls := "SketchCache$Player", name := "<init>", desc := "()V" } : Jvm.MethodName)) ∈ tk_tb := tk_in (List.mem_append_right _ (List.mem_of_getElem? (i := 28) (by decide +kernel))) rfl
set_option maxRecDepth 20000 in
theorem t_29 : (Jvm.Cond.instanceMethod ({ cls := "SketchCache$Player", name := "<init>", desc := "()V" } : Jvm.MethodName)) ∈ tk_tb := tk_in (List.mem_append_right _ (List.mem_of_getElem? (i := 29) (by decide +kernel))) rfl
set_option maxRecDepth 20000 in
theorem t_30 : (Jvm.Cond.code ({ cls := "SketchCache$Player", name := "<init>", desc := "()V" } : Jvm.MethodName) prog_5_method_1_code (1 : Nat) (Option.none : Option Jvm.ClassFile.FieldType)) ∈ tk_tb := tk_in (List.mem_append_right _ (List.mem_of_getElem? (i := 30) (rfl))) rfl
set_option maxRecDepth 20000 in
theorem t_31 : (Jvm.Cond.methodLink "SketchCache$Player" (3 : Nat) ({ cls := "java/lang/Object", name := "<init>", desc := "()V" } : Jvm.MethodName)) ∈ tk_tb := tk_in (List.mem_append_right _ (List.mem_of_getElem? (i := 31) (by decide +kernel))) rfl
set_option maxRecDepth 20000 in
theorem t_32 : (Jvm.Cond.classLink "SketchCache$Player" (11 : Nat) "SketchCache$Policy") ∈ tk_tb := tk_in (List.mem_append_right _ (List.mem_of_getElem? (i := 32) (by decide +kernel))) rfl
set_option maxRecDepth 20000 in
theorem q_33 : (Jvm.Cond.arrayOver (Jvm.ClassFile.FieldType.object "SketchCache$Policy")) ∈ lw_tbl := List.mem_append_right _ (List.mem_of_getElem? (i := 33) (by decide +kernel))
set_option maxRecDepth 20000 in
theorem t_34 : (Jvm.Cond.classLink "SketchCache$Player" (31 : Nat) "SketchCache$Seats") ∈ tk_tb := tk_in (List.mem_append_right _ (List.mem_of_getElem? (i := 34) (by decide +kernel))) rfl
set_option maxRecDepth 20000 in
theorem t_35 : (Jvm.Cond.instantiable "SketchCache$Seats" (10 : Nat)) ∈ tk_tb := tk_in (List.mem_append_right _ (List.mem_of_getElem? (i := 35) (by decide +kernel))) rfl
set_option maxRecDepth 20000 in
theorem t_36 : (Jvm.Cond.methodLink "SketchCache$Player" (33 : Nat) ({ cls := "SketchCache$Seats", name := "<init>", desc := "(I)V" } : Jvm.MethodName)) ∈ tk_tb := tk_in (List.mem_append_right _ (List.mem_of_getElem? (i := 36) (by decide +kernel))) rfl
set_option maxRecDepth 20000 in
theorem t_37 : (Jvm.Cond.instanceMethod ({ cls := "SketchCache$Seats", name := "<init>", desc := "(I)V" } : Jvm.MethodName)) ∈ tk_tb := tk_in (List.mem_append_right _ (List.mem_of_getElem? (i := 37) (by decide +kernel))) rfl
set_option maxRecDepth 20000 in
theorem t_38 : (Jvm.Cond.code ({ cls := "SketchCache$Seats", name := "<init>", desc := "(I)V" } : Jvm.MethodName) prog_8_method_1_code (2 : Nat) (Option.none : Option Jvm.ClassFile.FieldType)) ∈ tk_tb := tk_in (List.mem_append_right _ (List.mem_of_getElem? (i := 38) (rfl))) rfl
set_option maxRecDepth 20000 in
theorem q_39 : (Jvm.Cond.methodLinkNest "SketchCache$Seats" (3 : Nat) ({ cls := "SketchCache$Policy", name := "<init>", desc := "()V" } : Jvm.MethodName) "SketchCache") ∈ lw_tbl := List.mem_append_right _ (List.mem_of_getElem? (i := 39) (by decide +kernel))
set_option maxRecDepth 20000 in
theorem t_40 : (Jvm.Cond.instanceMethod ({ cls := "SketchCache$Policy", name := "<init>", desc := "()V" } : Jvm.MethodName)) ∈ tk_tb := tk_in (List.mem_append_right _ (List.mem_of_getElem? (i := 40) (by decide +kernel))) rfl
set_option maxRecDepth 20000 in
theorem t_41 : (Jvm.Cond.code ({ cls := "SketchCache$Policy", name := "<init>", desc := "()V" } : Jvm.MethodName) prog_6_method_1_code (1 : Nat) (Option.none : Option Jvm.ClassFile.FieldType)) ∈ tk_tb := tk_in (List.mem_append_right _ (List.mem_of_getElem? (i := 41) (rfl))) rfl
set_option maxRecDepth 20000 in
theorem t_42 : (Jvm.Cond.methodLink "SketchCache$Policy" (1 : Nat) ({ cls := "java/lang/Object", name := "<init>", desc := "()V" } : Jvm.MethodName)) ∈ tk_tb := tk_in (List.mem_append_right _ (List.mem_of_getElem? (i := 42) (by decide +kernel))) rfl
set_option maxRecDepth 20000 in
theorem t_43 : (Jvm.Cond.fieldLink "SketchCache$Seats" (40 : Nat) "SketchCache$Seats" "leaver" "I") ∈ tk_tb := tk_in (List.mem_append_right _ (List.mem_of_getElem? (i := 43) (by decide +kernel))) rfl
set_option maxRecDepth 20000 in
theorem t_44 : (Jvm.Cond.fieldLink "SketchCache$Seats" (9 : Nat) "SketchCache$Seats" "keys" "[I") ∈ tk_tb := tk_in (List.mem_append_right _ (List.mem_of_getElem? (i := 44) (by decide +kernel))) rfl
set_option maxRecDepth 20000 in
theorem t_45 : (Jvm.Cond.fieldLink "SketchCache$Seats" (15 : Nat) "SketchCache$Seats" "came" "[I") ∈ tk_tb := tk_in (List.mem_append_right _ (List.mem_of_getElem? (i := 45) (by decide +kernel))) rfl
set_option maxRecDepth 20000 in
theorem t_46 : (Jvm.Cond.fieldLink "SketchCache$Seats" (18 : Nat) "SketchCache$Seats" "used" "[I") ∈ tk_tb := tk_in (List.mem_append_right _ (List.mem_of_getElem? (i := 46) (by decide +kernel))) rfl
set_option maxRecDepth 20000 in
theorem t_47 : (Jvm.Cond.fieldLink "SketchCache$Seats" (21 : Nat) "SketchCache$Seats" "uses" "[I") ∈ tk_tb := tk_in (List.mem_append_right _ (List.mem_of_getElem? (i := 47) (by decide +kernel))) rfl
set_option maxRecDepth 20000 in
theorem t_48 : (Jvm.Cond.fieldLink "SketchCache$Seats" (24 : Nat) "SketchCache$Seats" "next" "[I") ∈ tk_tb := tk_in (List.mem_append_right _ (List.mem_of_getElem? (i := 48) (by decide +kernel))) rfl
set_option maxRecDepth 20000 in
theorem t_49 : (Jvm.Cond.fieldLink "SketchCache$Seats" (27 : Nat) "SketchCache$Seats" "marks" "[I") ∈ tk_tb := tk_in (List.mem_append_right _ (List.mem_of_getElem? (i := 49) (by decide +kernel))) rfl
set_option maxRecDepth 20000 in
theorem t_50 : (Jvm.Cond.fieldLink "SketchCache$Seats" (30 : Nat) "SketchCache$Seats" "seats" "I") ∈ tk_tb := tk_in (List.mem_append_right _ (List.mem_of_getElem? (i := 50) (by decide +kernel))) rfl
set_option maxRecDepth 20000 in
theorem t_51 : (Jvm.Cond.fieldLink "SketchCache$Seats" (34 : Nat) "SketchCache$Seats" "taken" "I") ∈ tk_tb := tk_in (List.mem_append_right _ (List.mem_of_getElem? (i := 51) (by decide +kernel))) rfl
set_option maxRecDepth 20000 in
theorem t_52 : (Jvm.Cond.fieldLink "SketchCache$Seats" (37 : Nat) "SketchCache$Seats" "hand" "I") ∈ tk_tb := tk_in (List.mem_append_right _ (List.mem_of_getElem? (i := 52) (by decide +kernel))) rfl
set_option maxRecDepth 20000 in
theorem t_53 : (Jvm.Cond.laysFinal "SketchCache$Seats" "SketchCache$Seats" "leaver" "I") ∈ tk_tb := tk_in (List.mem_append_right _ (List.mem_of_getElem? (i := 53) (by decide +kernel))) rfl
set_option maxRecDepth 20000 in
theorem t_54 : (Jvm.Cond.soleField "SketchCache$Seats" "leaver") ∈ tk_tb := tk_in (List.mem_append_right _ (List.mem_of_getElem? (i := 54) (by decide +kernel))) rfl
set_option maxRecDepth 20000 in
theorem t_55 : (Jvm.Cond.laysFinal "SketchCache$Seats" "SketchCache$Seats" "keys" "[I") ∈ tk_tb := tk_in (List.mem_append_right _ (List.mem_of_getElem? (i := 55) (by decide +kernel))) rfl
set_option maxRecDepth 20000 in
theorem t_56 : (Jvm.Cond.soleField "SketchCache$Seats" "keys") ∈ tk_tb := tk_in (List.mem_append_right _ (List.mem_of_getElem? (i := 56) (by decide +kernel))) rfl
set_option maxRecDepth 20000 in
theorem t_57 : (Jvm.Cond.laysFinal "SketchCache$Seats" "SketchCache$Seats" "came" "[I") ∈ tk_tb := tk_in (List.mem_append_right _ (List.mem_of_getElem? (i := 57) (by decide +kernel))) rfl
set_option maxRecDepth 20000 in
theorem t_58 : (Jvm.Cond.soleField "SketchCache$Seats" "came") ∈ tk_tb := tk_in (List.mem_append_right _ (List.mem_of_getElem? (i := 58) (by decide +kernel))) rfl
set_option maxRecDepth 20000 in
theorem t_59 : (Jvm.Cond.laysFinal "SketchCache$Seats" "SketchCache$Seats" "used" "[I") ∈ tk_tb := tk_in (List.mem_append_right _ (List.mem_of_getElem? (i := 59) (by decide +kernel))) rfl
set_option maxRecDepth 20000 in
theorem t_60 : (Jvm.Cond.soleField "SketchCache$Seats" "used") ∈ tk_tb := tk_in (List.mem_append_right _ (List.mem_of_getElem? (i := 60) (by decide +kernel))) rfl
set_option maxRecDepth 20000 in
theorem t_61 : (Jvm.Cond.laysFinal "SketchCache$Seats" "SketchCache$Seats" "uses" "[I") ∈ tk_tb := tk_in (List.mem_append_right _ (List.mem_of_getElem? (i := 61) (by decide +kernel))) rfl
set_option maxRecDepth 20000 in
theorem t_62 : (Jvm.Cond.soleField "SketchCache$Seats" "uses") ∈ tk_tb := tk_in (List.mem_append_right _ (List.mem_of_getElem? (i := 62) (by decide +kernel))) rfl
set_option maxRecDepth 20000 in
theorem t_63 : (Jvm.Cond.laysFinal "SketchCache$Seats" "SketchCache$Seats" "next" "[I") ∈ tk_tb := tk_in (List.mem_append_right _ (List.mem_of_getElem? (i := 63) (by decide +kernel))) rfl
set_option maxRecDepth 20000 in
theorem t_64 : (Jvm.Cond.soleField "SketchCache$Seats" "next") ∈ tk_tb := tk_in (List.mem_append_right _ (List.mem_of_getElem? (i := 64) (by decide +kernel))) rfl
set_option maxRecDepth 20000 in
theorem t_65 : (Jvm.Cond.laysFinal "SketchCache$Seats" "SketchCache$Seats" "marks" "[I") ∈ tk_tb := tk_in (List.mem_append_right _ (List.mem_of_getElem? (i := 65) (by decide +kernel))) rfl
set_option maxRecDepth 20000 in
theorem t_66 : (Jvm.Cond.soleField "SketchCache$Seats" "marks") ∈ tk_tb := tk_in (List.mem_append_right _ (List.mem_of_getElem? (i := 66) (by decide +kernel))) rfl
set_option maxRecDepth 20000 in
theorem t_67 : (Jvm.Cond.lays "SketchCache$Seats" "SketchCache$Seats" "seats" "I") ∈ tk_tb := tk_in (List.mem_append_right _ (List.mem_of_getElem? (i := 67) (by decide +kernel))) rfl
set_option maxRecDepth 20000 in
theorem t_68 : (Jvm.Cond.soleField "SketchCache$Seats" "seats") ∈ tk_tb := tk_in (List.mem_append_right _ (List.mem_of_getElem? (i := 68) (by decide +kernel))) rfl
set_option maxRecDepth 20000 in
theorem t_69 : (Jvm.Cond.lays "SketchCache$Seats" "SketchCache$Seats" "taken" "I") ∈ tk_tb := tk_in (List.mem_append_right _ (List.mem_of_getElem? (i := 69) (by decide +kernel))) rfl
set_option maxRecDepth 20000 in
theorem t_70 : (Jvm.Cond.soleField "SketchCache$Seats" "taken") ∈ tk_tb := tk_in (List.mem_append_right _ (List.mem_of_getElem? (i := 70) (by decide +kernel))) rfl
set_option maxRecDepth 20000 in
theorem t_71 : (Jvm.Cond.lays "SketchCache$Seats" "SketchCache$Seats" "hand" "I") ∈ tk_tb := tk_in (List.mem_append_right _ (List.mem_of_getElem? (i := 71) (by decide +kernel))) rfl
set_option maxRecDepth 20000 in
theorem t_72 : (Jvm.Cond.soleField "SketchCache$Seats" "hand") ∈ tk_tb := tk_in (List.mem_append_right _ (List.mem_of_getElem? (i := 72) (by decide +kernel))) rfl
set_option maxRecDepth 20000 in
theorem t_73 : (Jvm.Cond.superclass "SketchCache$Seats" "SketchCache$Policy") ∈ tk_tb := tk_in (List.mem_append_right _ (List.mem_of_getElem? (i := 73) (by decide +kernel))) rfl
set_option maxRecDepth 20000 in
theorem t_74 : (Jvm.Cond.arrayClass Jvm.ClassFile.FieldType.int) ∈ tk_tb := tk_in (List.mem_append_right _ (List.mem_of_getElem? (i := 74) (by decide +kernel))) rfl
set_option maxRecDepth 20000 in
theorem t_75 : (Jvm.Cond.classLink "SketchCache$Player" (36 : Nat) "SketchCache$FourRows") ∈ tk_tb := tk_in (List.mem_append_right _ (List.mem_of_getElem? (i := 75) (by decide +kernel))) rfl
set_option maxRecDepth 20000 in
theorem t_76 : (Jvm.Cond.instantiable "SketchCache$FourRows" (3 : Nat)) ∈ tk_tb := tk_in (List.mem_append_right _ (List.mem_of_getElem? (i := 76) (by decide +kernel))) rfl
set_option maxRecDepth 20000 in
theorem q_77 : (Jvm.Cond.methodLinkNest "SketchCache$Player" (38 : Nat) ({ cls := "SketchCache$FourRows", name := "<init>", desc := "()V" } : Jvm.MethodName) "SketchCache") ∈ lw_tbl := List.mem_append_right _ (List.mem_of_getElem? (i := 77) (by decide +kernel))
set_option maxRecDepth 20000 in
theorem t_78 : (Jvm.Cond.instanceMethod ({ cls := "SketchCache$FourRows", name := "<init>", desc := "()V" } : Jvm.MethodName)) ∈ tk_tb := tk_in (List.mem_append_right _ (List.mem_of_getElem? (i := 78) (by decide +kernel))) rfl
set_option maxRecDepth 20000 in
theorem t_79 : (Jvm.Cond.code ({ cls := "SketchCache$FourRows", name := "<init>", desc := "()V" } : Jvm.MethodName) prog_4_method_1_code (1 : Nat) (Option.none : Option Jvm.ClassFile.FieldType)) ∈ tk_tb := tk_in (List.mem_append_right _ (List.mem_of_getElem? (i := 79) (rfl))) rfl
set_option maxRecDepth 20000 in
theorem q_80 : (Jvm.Cond.methodLinkNest "SketchCache$FourRows" (3 : Nat) ({ cls := "SketchCache$Policy", name := "<init>", desc := "()V" } : Jvm.MethodName) "SketchCache") ∈ lw_tbl := List.mem_append_right _ (List.mem_of_getElem? (i := 80) (by decide +kernel))
set_option maxRecDepth 20000 in
theorem t_81 : (Jvm.Cond.classLink "SketchCache$FourRows" (9 : Nat) "SketchCache$Rows") ∈ tk_tb := tk_in (List.mem_append_right _ (List.mem_of_getElem? (i := 81) (by decide +kernel))) rfl
set_option maxRecDepth 20000 in
theorem t_82 : (Jvm.Cond.instantiable "SketchCache$Rows" (5 : Nat)) ∈ tk_tb := tk_in (List.mem_append_right _ (List.mem_of_getElem? (i := 82) (by decide +kernel))) rfl
set_option maxRecDepth 20000 in
theorem t_83 : (Jvm.Cond.methodLink "SketchCache$FourRows" (11 : Nat) ({ cls := "SketchCache$Rows", name := "<init>", desc := "(I)V" } : Jvm.MethodName)) ∈ tk_tb := tk_in (List.mem_append_right _ (List.mem_of_getElem? (i := 83) (by decide +kernel))) rfl
set_option maxRecDepth 20000 in
theorem t_84 : (Jvm.Cond.instanceMethod ({ cls := "SketchCache$Rows", name := "<init>", desc := "(I)V" } : Jvm.MethodName)) ∈ tk_tb := tk_in (List.mem_append_right _ (List.mem_of_getElem? (i := 84) (by decide +kernel))) rfl
set_option maxRecDepth 20000 in
theorem t_85 : (Jvm.Cond.code ({ cls := "SketchCache$Rows", name := "<init>", desc := "(I)V" } : Jvm.MethodName) prog_7_method_1_code (3 : Nat) (Option.none : Option Jvm.ClassFile.FieldType)) ∈ tk_tb := tk_in (List.mem_append_right _ (List.mem_of_getElem? (i := 85) (rfl))) rfl
set_option maxRecDepth 20000 in
theorem t_86 : (Jvm.Cond.methodLink "SketchCache$Rows" (3 : Nat) ({ cls := "java/lang/Object", name := "<init>", desc := "()V" } : Jvm.MethodName)) ∈ tk_tb := tk_in (List.mem_append_right _ (List.mem_of_getElem? (i := 86) (by decide +kernel))) rfl
set_option maxRecDepth 20000 in
theorem t_87 : (Jvm.Cond.methodLink "SketchCache$Rows" (18 : Nat) ({ cls := "java/lang/Math", name := "max", desc := "(II)I" } : Jvm.MethodName)) ∈ tk_tb := tk_in (List.mem_append_right _ (List.mem_of_getElem? (i := 87) (by decide +kernel))) rfl
set_option maxRecDepth 20000 in
theorem t_88 : (Jvm.Cond.static ({ cls := "java/lang/Math", name := "max", desc := "(II)I" } : Jvm.MethodName)) ∈ tk_tb := tk_in (List.mem_append_right _ (List.mem_of_getElem? (i := 88) (by decide +kernel))) rfl
set_option maxRecDepth 20000 in
theorem t_89 : (Jvm.Cond.code ({ cls := "java/lang/Math", name := "max", desc := "(II)I" } : Jvm.MethodName) prog_14_method_65_code (2 : Nat) (Option.some Jvm.ClassFile.FieldType.int)) ∈ tk_tb := tk_in (List.mem_append_right _ (List.mem_of_getElem? (i := 89) (rfl))) rfl
set_option maxRecDepth 20000 in
theorem t_90 : (Jvm.Cond.classLink "SketchCache$Rows" (24 : Nat) "[[I") ∈ tk_tb := tk_in (List.mem_append_right _ (List.mem_of_getElem? (i := 90) (by decide +kernel))) rfl
set_option maxRecDepth 20000 in
theorem q_91 : (Jvm.Cond.arrayOver (Jvm.ClassFile.FieldType.array Jvm.ClassFile.FieldType.int)) ∈ lw_tbl := List.mem_append_right _ (List.mem_of_getElem? (i := 91) (by decide +kernel))
set_option maxRecDepth 20000 in
theorem t_92 : (Jvm.Cond.methodLink "SketchCache$Rows" (35 : Nat) ({ cls := "java/util/Arrays", name := "fill", desc := "([II)V" } : Jvm.MethodName)) ∈ tk_tb := tk_in (List.mem_append_right _ (List.mem_of_getElem? (i := 92) (by decide +kernel))) rfl
set_option maxRecDepth 20000 in
theorem t_93 : (Jvm.Cond.static ({ cls := "java/util/Arrays", name := "fill", desc := "([II)V" } : Jvm.MethodName)) ∈ tk_tb := tk_in (List.mem_append_right _ (List.mem_of_getElem? (i := 93) (by decide +kernel))) rfl
set_option maxRecDepth 20000 in
theorem t_94 : (Jvm.Cond.code ({ cls := "java/util/Arrays", name := "fill", desc := "([II)V" } : Jvm.MethodName) prog_16_method_103_code (4 : Nat) (Option.none : Option Jvm.ClassFile.FieldType)) ∈ tk_tb := tk_in (List.mem_append_right _ (List.mem_of_getElem? (i := 94) (rfl))) rfl
set_option maxRecDepth 20000 in
theorem t_95 : (Jvm.Cond.fieldLink "SketchCache$Rows" (26 : Nat) "SketchCache$Rows" "keys" "[[I") ∈ tk_tb := tk_in (List.mem_append_right _ (List.mem_of_getElem? (i := 95) (by decide +kernel))) rfl
set_option maxRecDepth 20000 in
theorem t_96 : (Jvm.Cond.fieldLink "SketchCache$Cache" (64 : Nat) "SketchCache$Rows" "keys" "[[I") ∈ tk_tb := tk_in (List.mem_append_right _ (List.mem_of_getElem? (i := 96) (by decide +kernel))) rfl
set_option maxRecDepth 20000 in
theorem t_97 : (Jvm.Cond.fieldLink "SketchCache$Rows" (29 : Nat) "SketchCache$Rows" "counts" "[I") ∈ tk_tb := tk_in (List.mem_append_right _ (List.mem_of_getElem? (i := 97) (by decide +kernel))) rfl
set_option maxRecDepth 20000 in
theorem t_98 : (Jvm.Cond.fieldLink "SketchCache$FourRows" (41 : Nat) "SketchCache$Rows" "counts" "[I") ∈ tk_tb := tk_in (List.mem_append_right _ (List.mem_of_getElem? (i := 98) (by decide +kernel))) rfl
set_option maxRecDepth 20000 in
theorem t_99 : (Jvm.Cond.fieldLink "SketchCache$Cache" (40 : Nat) "SketchCache$Rows" "counts" "[I") ∈ tk_tb := tk_in (List.mem_append_right _ (List.mem_of_getElem? (i := 99) (by decide +kernel))) rfl
set_option maxRecDepth 20000 in
theorem t_100 : (Jvm.Cond.fieldLink "SketchCache$Rows" (32 : Nat) "SketchCache$Rows" "units" "[I") ∈ tk_tb := tk_in (List.mem_append_right _ (List.mem_of_getElem? (i := 100) (by decide +kernel))) rfl
set_option maxRecDepth 20000 in
theorem t_101 : (Jvm.Cond.fieldLink "SketchCache$State" (106 : Nat) "SketchCache$Rows" "units" "[I") ∈ tk_tb := tk_in (List.mem_append_right _ (List.mem_of_getElem? (i := 101) (by decide +kernel))) rfl
set_option maxRecDepth 20000 in
theorem t_102 : (Jvm.Cond.fieldLink "SketchCache$Cache" (48 : Nat) "SketchCache$Rows" "units" "[I") ∈ tk_tb := tk_in (List.mem_append_right _ (List.mem_of_getElem? (i := 102) (by decide +kernel))) rfl
set_option maxRecDepth 20000 in
theorem t_103 : (Jvm.Cond.fieldLink "SketchCache$Rows" (9 : Nat) "SketchCache$Rows" "rowOf" "[I") ∈ tk_tb := tk_in (List.mem_append_right _ (List.mem_of_getElem? (i := 103) (by decide +kernel))) rfl
set_option maxRecDepth 20000 in
theorem t_104 : (Jvm.Cond.fieldLink "SketchCache$State" (58 : Nat) "SketchCache$Rows" "rowOf" "[I") ∈ tk_tb := tk_in (List.mem_append_right _ (List.mem_of_getElem? (i := 104) (by decide +kernel))) rfl
set_option maxRecDepth 20000 in
theorem t_105 : (Jvm.Cond.fieldLink "SketchCache$FourRows" (30 : Nat) "SketchCache$Rows" "rowOf" "[I") ∈ tk_tb := tk_in (List.mem_append_right _ (List.mem_of_getElem? (i := 105) (by decide +kernel))) rfl
set_option maxRecDepth 20000 in
theorem t_106 : (Jvm.Cond.fieldLink "SketchCache" (85 : Nat) "SketchCache$Rows" "rowOf" "[I") ∈ tk_tb := tk_in (List.mem_append_right _ (List.mem_of_getElem? (i := 106) (by decide +kernel))) rfl
set_option maxRecDepth 20000 in
theorem t_107 : (Jvm.Cond.fieldLink "SketchCache$Cache" (51 : Nat) "SketchCache$Rows" "rowOf" "[I") ∈ tk_tb := tk_in (List.mem_append_right _ (List.mem_of_getElem? (i := 107) (by decide +kernel))) rfl
set_option maxRecDepth 20000 in
theorem t_108 : (Jvm.Cond.fieldLink "SketchCache$Rows" (15 : Nat) "SketchCache$Rows" "sizes" "[I") ∈ tk_tb := tk_in (List.mem_append_right _ (List.mem_of_getElem? (i := 108) (by decide +kernel))) rfl
set_option maxRecDepth 20000 in
theorem t_109 : (Jvm.Cond.fieldLink "SketchCache" (90 : Nat) "SketchCache$Rows" "sizes" "[I") ∈ tk_tb := tk_in (List.mem_append_right _ (List.mem_of_getElem? (i := 109) (by decide +kernel))) rfl
set_option maxRecDepth 20000 in
theorem t_110 : (Jvm.Cond.fieldLink "SketchCache$Cache" (68 : Nat) "SketchCache$Rows" "sizes" "[I") ∈ tk_tb := tk_in (List.mem_append_right _ (List.mem_of_getElem? (i := 110) (by decide +kernel))) rfl
set_option maxRecDepth 20000 in
theorem t_111 : (Jvm.Cond.laysFinal "SketchCache$Rows" "SketchCache$Rows" "keys" "[[I") ∈ tk_tb := tk_in (List.mem_append_right _ (List.mem_of_getElem? (i := 111) (by decide +kernel))) rfl
set_option maxRecDepth 20000 in
theorem t_112 : (Jvm.Cond.soleField "SketchCache$Rows" "keys") ∈ tk_tb := tk_in (List.mem_append_right _ (List.mem_of_getElem? (i := 112) (by decide +kernel))) rfl
set_option maxRecDepth 20000 in
theorem t_113 : (Jvm.Cond.laysFinal "SketchCache$Rows" "SketchCache$Rows" "counts" "[I") ∈ tk_tb := tk_in (List.mem_append_right _ (List.mem_of_getElem? (i := 113) (by decide +kernel))) rfl
set_option maxRecDepth 20000 in
theorem t_114 : (Jvm.Cond.soleField "SketchCache$Rows" "counts") ∈ tk_tb := tk_in (List.mem_append_right _ (List.mem_of_getElem? (i := 114) (by decide +kernel))) rfl
set_option maxRecDepth 20000 in
theorem t_115 : (Jvm.Cond.laysFinal "SketchCache$Rows" "SketchCache$Rows" "units" "[I") ∈ tk_tb := tk_in (List.mem_append_right _ (List.mem_of_getElem? (i := 115) (by decide +kernel))) rfl
set_option maxRecDepth 20000 in
theorem t_116 : (Jvm.Cond.soleField "SketchCache$Rows" "units") ∈ tk_tb := tk_in (List.mem_append_right _ (List.mem_of_getElem? (i := 116) (by decide +kernel))) rfl
set_option maxRecDepth 20000 in
theorem t_117 : (Jvm.Cond.laysFinal "SketchCache$Rows" "SketchCache$Rows" "rowOf" "[I") ∈ tk_tb := tk_in (List.mem_append_right _ (List.mem_of_getElem? (i := 117) (by decide +kernel))) rfl
set_option maxRecDepth 20000 in
theorem t_118 : (Jvm.Cond.soleField "SketchCache$Rows" "rowOf") ∈ tk_tb := tk_in (List.mem_append_right _ (List.mem_of_getElem? (i := 118) (by decide +kernel))) rfl
set_option maxRecDepth 20000 in
theorem t_119 : (Jvm.Cond.laysFinal "SketchCache$Rows" "SketchCache$Rows" "sizes" "[I") ∈ tk_tb := tk_in (List.mem_append_right _ (List.mem_of_getElem? (i := 119) (by decide +kernel))) rfl
set_option maxRecDepth 20000 in
theorem t_120 : (Jvm.Cond.soleField "SketchCache$Rows" "sizes") ∈ tk_tb := tk_in (List.mem_append_right _ (List.mem_of_getElem? (i := 120) (by decide +kernel))) rfl
set_option maxRecDepth 20000 in
theorem t_121 : (Jvm.Cond.superclass "SketchCache$Rows" "java/lang/Object") ∈ tk_tb := tk_in (List.mem_append_right _ (List.mem_of_getElem? (i := 121) (by decide +kernel))) rfl
set_option maxRecDepth 20000 in
theorem t_122 : (Jvm.Cond.fieldLink "SketchCache$FourRows" (14 : Nat) "SketchCache$FourRows" "rows" "LSketchCache$Rows;") ∈ tk_tb := tk_in (List.mem_append_right _ (List.mem_of_getElem? (i := 122) (by decide +kernel))) rfl
set_option maxRecDepth 20000 in
theorem t_123 : (Jvm.Cond.fieldLink "SketchCache$FourRows" (20 : Nat) "SketchCache$FourRows" "most" "I") ∈ tk_tb := tk_in (List.mem_append_right _ (List.mem_of_getElem? (i := 123) (by decide +kernel))) rfl
set_option maxRecDepth 20000 in
theorem t_124 : (Jvm.Cond.fieldLink "SketchCache$FourRows" (24 : Nat) "SketchCache$FourRows" "goal" "I") ∈ tk_tb := tk_in (List.mem_append_right _ (List.mem_of_getElem? (i := 124) (by decide +kernel))) rfl
set_option maxRecDepth 20000 in
theorem t_125 : (Jvm.Cond.laysFinal "SketchCache$FourRows" "SketchCache$FourRows" "rows" "LSketchCache$Rows;") ∈ tk_tb := tk_in (List.mem_append_right _ (List.mem_of_getElem? (i := 125) (by decide +kernel))) rfl
set_option maxRecDepth 20000 in
theorem t_126 : (Jvm.Cond.soleField "SketchCache$FourRows" "rows") ∈ tk_tb := tk_in (List.mem_append_right _ (List.mem_of_getElem? (i := 126) (by decide +kernel))) rfl
set_option maxRecDepth 20000 in
theorem t_127 : (Jvm.Cond.lays "SketchCache$FourRows" "SketchCache$FourRows" "most" "I") ∈ tk_tb := tk_in (List.mem_append_right _ (List.mem_of_getElem? (i := 127) (by decide +kernel))) rfl
set_option maxRecDepth 20000 in
theorem t_128 : (Jvm.Cond.soleField "SketchCache$FourRows" "most") ∈ tk_tb := tk_in (List.mem_append_right _ (List.mem_of_getElem? (i := 128) (by decide +kernel))) rfl
set_option maxRecDepth 20000 in
theorem t_129 : (Jvm.Cond.lays "SketchCache$FourRows" "SketchCache$FourRows" "goal" "I") ∈ tk_tb := tk_in (List.mem_append_right _ (List.mem_of_getElem? (i := 129) (by decide +kernel))) rfl
set_option maxRecDepth 20000 in
theorem t_130 : (Jvm.Cond.soleField "SketchCache$FourRows" "goal") ∈ tk_tb := tk_in (List.mem_append_right _ (List.mem_of_getElem? (i := 130) (by decide +kernel))) rfl
set_option maxRecDepth 20000 in
theorem t_131 : (Jvm.Cond.superclass "SketchCache$FourRows" "SketchCache$Policy") ∈ tk_tb := tk_in (List.mem_append_right _ (List.mem_of_getElem? (i := 131) (by decide +kernel))) rfl
set_option maxRecDepth 20000 in
theorem t_132 : (Jvm.Cond.fieldLink "SketchCache$Player" (13 : Nat) "SketchCache$Player" "policies" "[LSketchCache$Policy;") ∈ tk_tb := tk_in (List.mem_append_right _ (List.mem_of_getElem? (i := 132) (by decide +kernel))) rfl
set_option maxRecDepth 20000 in
theorem t_133 : (Jvm.Cond.fieldLink "SketchCache$Player" (17 : Nat) "SketchCache$Player" "nextUse" "[I") ∈ tk_tb := tk_in (List.mem_append_right _ (List.mem_of_getElem? (i := 133) (by decide +kernel))) rfl
set_option maxRecDepth 20000 in
theorem t_134 : (Jvm.Cond.fieldLink "SketchCache$Player" (21 : Nat) "SketchCache$Player" "seenAt" "[I") ∈ tk_tb := tk_in (List.mem_append_right _ (List.mem_of_getElem? (i := 134) (by decide +kernel))) rfl
set_option maxRecDepth 20000 in
theorem t_135 : (Jvm.Cond.fieldLink "SketchCache$Player" (24 : Nat) "SketchCache$Player" "keptKeys" "[I") ∈ tk_tb := tk_in (List.mem_append_right _ (List.mem_of_getElem? (i := 135) (by decide +kernel))) rfl
set_option maxRecDepth 20000 in
theorem t_136 : (Jvm.Cond.fieldLink "SketchCache$Player" (27 : Nat) "SketchCache$Player" "keptCount" "I") ∈ tk_tb := tk_in (List.mem_append_right _ (List.mem_of_getElem? (i := 136) (by decide +kernel))) rfl
set_option maxRecDepth 20000 in
theorem t_137 : (Jvm.Cond.laysFinal "SketchCache$Player" "SketchCache$Player" "policies" "[LSketchCache$Policy;") ∈ tk_tb := tk_in (List.mem_append_right _ (List.mem_of_getElem? (i := 137) (by decide +kernel))) rfl
set_option maxRecDepth 20000 in
theorem t_138 : (Jvm.Cond.soleField "SketchCache$Player" "policies") ∈ tk_tb := tk_in (List.mem_append_right _ (List.mem_of_getElem? (i := 138) (by decide +kernel))) rfl
set_option maxRecDepth 20000 in
theorem t_139 : (Jvm.Cond.laysFinal "SketchCache$Player" "SketchCache$Player" "nextUse" "[I") ∈ tk_tb := tk_in (List.mem_append_right _ (List.mem_of_getElem? (i := 139) (by decide +kernel))) rfl
set_option maxRecDepth 20000 in
theorem t_140 : (Jvm.Cond.soleField "SketchCache$Player" "nextUse") ∈ tk_tb := tk_in (List.mem_append_right _ (List.mem_of_getElem? (i := 140) (by decide +kernel))) rfl
set_option maxRecDepth 20000 in
theorem t_141 : (Jvm.Cond.laysFinal "SketchCache$Player" "SketchCache$Player" "seenAt" "[I") ∈ tk_tb := tk_in (List.mem_append_right _ (List.mem_of_getElem? (i := 141) (by decide +kernel))) rfl
set_option maxRecDepth 20000 in
theorem t_142 : (Jvm.Cond.soleField "SketchCache$Player" "seenAt") ∈ tk_tb := tk_in (List.mem_append_right _ (List.mem_of_getElem? (i := 142) (by decide +kernel))) rfl
set_option maxRecDepth 20000 in
theorem t_143 : (Jvm.Cond.laysFinal "SketchCache$Player" "SketchCache$Player" "keptKeys" "[I") ∈ tk_tb := tk_in (List.mem_append_right _ (List.mem_of_getElem? (i := 143) (by decide +kernel))) rfl
set_option maxRecDepth 20000 in
theorem t_144 : (Jvm.Cond.soleField "SketchCache$Player" "keptKeys") ∈ tk_tb := tk_in (List.mem_append_right _ (List.mem_of_getElem? (i := 144) (by decide +kernel))) rfl
set_option maxRecDepth 20000 in
theorem t_145 : (Jvm.Cond.lays "SketchCache$Player" "SketchCache$Player" "keptCount" "I") ∈ tk_tb := tk_in (List.mem_append_right _ (List.mem_of_getElem? (i := 145) (by decide +kernel))) rfl
set_option maxRecDepth 20000 in
theorem t_146 : (Jvm.Cond.soleField "SketchCache$Player" "keptCount") ∈ tk_tb := tk_in (List.mem_append_right _ (List.mem_of_getElem? (i := 146) (by decide +kernel))) rfl
set_option maxRecDepth 20000 in
theorem t_147 : (Jvm.Cond.superclass "SketchCache$Player" "java/lang/Object") ∈ tk_tb := tk_in (List.mem_append_right _ (List.mem_of_getElem? (i := 147) (by decide +kernel))) rfl
set_option maxRecDepth 20000 in
theorem t_148 : (Jvm.Cond.methodLink "SketchCache" (22 : Nat) ({ cls := "java/lang/Math", name := "min", desc := "(II)I" } : Jvm.MethodName)) ∈ tk_tb := tk_in (List.mem_append_right _ (List.mem_of_getElem? (i := 148) (by decide +kernel))) rfl
set_option maxRecDepth 20000 in
theorem t_149 : (Jvm.Cond.static ({ cls := "java/lang/Math", name := "min", desc := "(II)I" } : Jvm.MethodName)) ∈ tk_tb := tk_in (List.mem_append_right _ (List.mem_of_getElem? (i := 149) (by decide +kernel))) rfl
set_option maxRecDepth 20000 in
theorem t_150 : (Jvm.Cond.code ({ cls := "java/lang/Math", name := "min", desc := "(II)I" } : Jvm.MethodName) prog_14_method_69_code (2 : Nat) (Option.some Jvm.ClassFile.FieldType.int)) ∈ tk_tb := tk_in (List.mem_append_right _ (List.mem_of_getElem? (i := 150) (rfl))) rfl
set_option maxRecDepth 20000 in
theorem t_151 : (Jvm.Cond.methodLink "SketchCache" (28 : Nat) ({ cls := "java/lang/Math", name := "max", desc := "(II)I" } : Jvm.MethodName)) ∈ tk_tb := tk_in (List.mem_append_right _ (List.mem_of_getElem? (i := 151) (by decide +kernel))) rfl
set_option maxRecDepth 20000 in
theorem t_152 : (Jvm.Cond.instantiable "SketchCache$State" (5 : Nat)) ∈ tk_tb := tk_in (List.mem_append_right _ (List.mem_of_getElem? (i := 152) (by decide +kernel))) rfl
set_option maxRecDepth 20000 in
theorem t_153 : (Jvm.Cond.methodLink "SketchCache" (41 : Nat) ({ cls := "SketchCache$State", name := "<init>", desc := "(III)V" } : Jvm.MethodName)) ∈ tk_tb := tk_in (List.mem_append_right _ (List.mem_of_getElem? (i := 153) (by decide +kernel))) rfl
set_option maxRecDepth 20000 in
theorem t_154 : (Jvm.Cond.instanceMethod ({ cls := "SketchCache$State", name := "<init>", desc := "(III)V" } : Jvm.MethodName)) ∈ tk_tb := tk_in (List.mem_append_right _ (List.mem_of_getElem? (i := 154) (by decide +kernel))) rfl
set_option maxRecDepth 20000 in
theorem t_155 : (Jvm.Cond.code ({ cls := "SketchCache$State", name := "<init>", desc := "(III)V" } : Jvm.MethodName) prog_10_method_1_code (4 : Nat) (Option.none : Option Jvm.ClassFile.FieldType)) ∈ tk_tb := tk_in (List.mem_append_right _ (List.mem_of_getElem? (i := 155) (rfl))) rfl
set_option maxRecDepth 20000 in
theorem t_156 : (Jvm.Cond.methodLink "SketchCache$State" (3 : Nat) ({ cls := "java/lang/Object", name := "<init>", desc := "()V" } : Jvm.MethodName)) ∈ tk_tb := tk_in (List.mem_append_right _ (List.mem_of_getElem? (i := 156) (by decide +kernel))) rfl
set_option maxRecDepth 20000 in
theorem t_157 : (Jvm.Cond.classLink "SketchCache$State" (9 : Nat) "SketchCache$Trace") ∈ tk_tb := tk_in (List.mem_append_right _ (List.mem_of_getElem? (i := 157) (by decide +kernel))) rfl
set_option maxRecDepth 20000 in
theorem t_158 : (Jvm.Cond.instantiable "SketchCache$Trace" (3 : Nat)) ∈ tk_tb := tk_in (List.mem_append_right _ (List.mem_of_getElem? (i := 158) (by decide +kernel))) rfl
set_option maxRecDepth 20000 in
theorem q_159 : (Jvm.Cond.methodLinkNest "SketchCache$State" (11 : Nat) ({ cls := "SketchCache$Trace", name := "<init>", desc := "()V" } : Jvm.MethodName) "SketchCache") ∈ lw_tbl := List.mem_append_right _ (List.mem_of_getElem? (i := 159) (by decide +kernel))
set_option maxRecDepth 20000 in
theorem t_160 : (Jvm.Cond.instanceMethod ({ cls := "SketchCache$Trace", name := "<init>", desc := "()V" } : Jvm.MethodName)) ∈ tk_tb := tk_in (List.mem_append_right _ (List.mem_of_getElem? (i := 160) (by decide +kernel))) rfl
set_option maxRecDepth 20000 in
theorem t_161 : (Jvm.Cond.code ({ cls := "SketchCache$Trace", name := "<init>", desc := "()V" } : Jvm.MethodName) prog_11_method_1_code (1 : Nat) (Option.none : Option Jvm.ClassFile.FieldType)) ∈ tk_tb := tk_in (List.mem_append_right _ (List.mem_of_getElem? (i := 161) (rfl))) rfl
set_option maxRecDepth 20000 in
theorem t_162 : (Jvm.Cond.methodLink "SketchCache$Trace" (3 : Nat) ({ cls := "java/lang/Object", name := "<init>", desc := "()V" } : Jvm.MethodName)) ∈ tk_tb := tk_in (List.mem_append_right _ (List.mem_of_getElem? (i := 162) (by decide +kernel))) rfl
set_option maxRecDepth 20000 in
theorem t_163 : (Jvm.Cond.fieldLink "SketchCache$Trace" (9 : Nat) "SketchCache$Trace" "ring" "[I") ∈ tk_tb := tk_in (List.mem_append_right _ (List.mem_of_getElem? (i := 163) (by decide +kernel))) rfl
set_option maxRecDepth 20000 in
theorem t_164 : (Jvm.Cond.fieldLink "SketchCache$Trace" (15 : Nat) "SketchCache$Trace" "earliest" "I") ∈ tk_tb := tk_in (List.mem_append_right _ (List.mem_of_getElem? (i := 164) (by decide +kernel))) rfl
set_option maxRecDepth 20000 in
theorem t_165 : (Jvm.Cond.fieldLink "SketchCache$Trace" (19 : Nat) "SketchCache$Trace" "count" "I") ∈ tk_tb := tk_in (List.mem_append_right _ (List.mem_of_getElem? (i := 165) (by decide +kernel))) rfl
set_option maxRecDepth 20000 in
theorem t_166 : (Jvm.Cond.fieldLink "SketchCache$State" (129 : Nat) "SketchCache$Trace" "count" "I") ∈ tk_tb := tk_in (List.mem_append_right _ (List.mem_of_getElem? (i := 166) (by decide +kernel))) rfl
set_option maxRecDepth 20000 in
theorem t_167 : (Jvm.Cond.fieldLink "SketchCache" (128 : Nat) "SketchCache$Trace" "count" "I") ∈ tk_tb := tk_in (List.mem_append_right _ (List.mem_of_getElem? (i := 167) (by decide +kernel))) rfl
set_option maxRecDepth 20000 in
theorem t_168 : (Jvm.Cond.laysFinal "SketchCache$Trace" "SketchCache$Trace" "ring" "[I") ∈ tk_tb := tk_in (List.mem_append_right _ (List.mem_of_getElem? (i := 168) (by decide +kernel))) rfl
set_option maxRecDepth 20000 in
theorem t_169 : (Jvm.Cond.soleField "SketchCache$Trace" "ring") ∈ tk_tb := tk_in (List.mem_append_right _ (List.mem_of_getElem? (i := 169) (by decide +kernel))) rfl
set_option maxRecDepth 20000 in
theorem t_170 : (Jvm.Cond.lays "SketchCache$Trace" "SketchCache$Trace" "earliest" "I") ∈ tk_tb := tk_in (List.mem_append_right _ (List.mem_of_getElem? (i := 170) (by decide +kernel))) rfl
set_option maxRecDepth 20000 in
theorem t_171 : (Jvm.Cond.soleField "SketchCache$Trace" "earliest") ∈ tk_tb := tk_in (List.mem_append_right _ (List.mem_of_getElem? (i := 171) (by decide +kernel))) rfl
set_option maxRecDepth 20000 in
theorem t_172 : (Jvm.Cond.lays "SketchCache$Trace" "SketchCache$Trace" "count" "I") ∈ tk_tb := tk_in (List.mem_append_right _ (List.mem_of_getElem? (i := 172) (by decide +kernel))) rfl
set_option maxRecDepth 20000 in
theorem t_173 : (Jvm.Cond.soleField "SketchCache$Trace" "count") ∈ tk_tb := tk_in (List.mem_append_right _ (List.mem_of_getElem? (i := 173) (by decide +kernel))) rfl
set_option maxRecDepth 20000 in
theorem t_174 : (Jvm.Cond.superclass "SketchCache$Trace" "java/lang/Object") ∈ tk_tb := tk_in (List.mem_append_right _ (List.mem_of_getElem? (i := 174) (by decide +kernel))) rfl
set_option maxRecDepth 20000 in
theorem t_175 : (Jvm.Cond.classLink "SketchCache$State" (18 : Nat) "SketchCache$Climb") ∈ tk_tb := tk_in (List.mem_append_right _ (List.mem_of_getElem? (i := 175) (by decide +kernel))) rfl
set_option maxRecDepth 20000 in
theorem t_176 : (Jvm.Cond.instantiable "SketchCache$Climb" (6 : Nat)) ∈ tk_tb := tk_in (List.mem_append_right _ (List.mem_of_getElem? (i := 176) (by decide +kernel))) rfl
set_option maxRecDepth 20000 in
theorem q_177 : (Jvm.Cond.methodLinkNest "SketchCache$State" (20 : Nat) ({ cls := "SketchCache$Climb", name := "<init>", desc := "()V" } : Jvm.MethodName) "SketchCache") ∈ lw_tbl := List.mem_append_right _ (List.mem_of_getElem? (i := 177) (by decide +kernel))
set_option maxRecDepth 20000 in
theorem t_178 : (Jvm.Cond.instanceMethod ({ cls := "SketchCache$Climb", name := "<init>", desc := "()V" } : Jvm.MethodName)) ∈ tk_tb := tk_in (List.mem_append_right _ (List.mem_of_getElem? (i := 178) (by decide +kernel))) rfl
set_option maxRecDepth 20000 in
theorem t_179 : (Jvm.Cond.code ({ cls := "SketchCache$Climb", name := "<init>", desc := "()V" } : Jvm.MethodName) prog_3_method_1_code (1 : Nat) (Option.none : Option Jvm.ClassFile.FieldType)) ∈ tk_tb := tk_in (List.mem_append_right _ (List.mem_of_getElem? (i := 179) (rfl))) rfl
set_option maxRecDepth 20000 in
theorem t_180 : (Jvm.Cond.methodLink "SketchCache$Climb" (1 : Nat) ({ cls := "java/lang/Object", name := "<init>", desc := "()V" } : Jvm.MethodName)) ∈ tk_tb := tk_in (List.mem_append_right _ (List.mem_of_getElem? (i := 180) (by decide +kernel))) rfl
set_option maxRecDepth 20000 in
theorem t_181 : (Jvm.Cond.fieldLink "SketchCache$Climb" (7 : Nat) "SketchCache$Climb" "step" "I") ∈ tk_tb := tk_in (List.mem_append_right _ (List.mem_of_getElem? (i := 181) (by decide +kernel))) rfl
set_option maxRecDepth 20000 in
theorem t_182 : (Jvm.Cond.fieldLink "SketchCache$Climb" (13 : Nat) "SketchCache$Climb" "period" "I") ∈ tk_tb := tk_in (List.mem_append_right _ (List.mem_of_getElem? (i := 182) (by decide +kernel))) rfl
set_option maxRecDepth 20000 in
theorem t_183 : (Jvm.Cond.fieldLink "SketchCache$Climb" (16 : Nat) "SketchCache$Climb" "direction" "I") ∈ tk_tb := tk_in (List.mem_append_right _ (List.mem_of_getElem? (i := 183) (by decide +kernel))) rfl
set_option maxRecDepth 20000 in
theorem t_184 : (Jvm.Cond.fieldLink "SketchCache$State" (121 : Nat) "SketchCache$Climb" "direction" "I") ∈ tk_tb := tk_in (List.mem_append_right _ (List.mem_of_getElem? (i := 184) (by decide +kernel))) rfl
set_option maxRecDepth 20000 in
theorem t_185 : (Jvm.Cond.fieldLink "SketchCache$Climb" (19 : Nat) "SketchCache$Climb" "hits" "I") ∈ tk_tb := tk_in (List.mem_append_right _ (List.mem_of_getElem? (i := 185) (by decide +kernel))) rfl
set_option maxRecDepth 20000 in
theorem t_186 : (Jvm.Cond.fieldLink "SketchCache$State" (124 : Nat) "SketchCache$Climb" "hits" "I") ∈ tk_tb := tk_in (List.mem_append_right _ (List.mem_of_getElem? (i := 186) (by decide +kernel))) rfl
set_option maxRecDepth 20000 in
theorem t_187 : (Jvm.Cond.fieldLink "SketchCache$Climb" (22 : Nat) "SketchCache$Climb" "accesses" "I") ∈ tk_tb := tk_in (List.mem_append_right _ (List.mem_of_getElem? (i := 187) (by decide +kernel))) rfl
set_option maxRecDepth 20000 in
theorem t_188 : (Jvm.Cond.fieldLink "SketchCache$State" (125 : Nat) "SketchCache$Climb" "accesses" "I") ∈ tk_tb := tk_in (List.mem_append_right _ (List.mem_of_getElem? (i := 188) (by decide +kernel))) rfl
set_option maxRecDepth 20000 in
theorem t_189 : (Jvm.Cond.fieldLink "SketchCache$Climb" (25 : Nat) "SketchCache$Climb" "hitsBefore" "I") ∈ tk_tb := tk_in (List.mem_append_right _ (List.mem_of_getElem? (i := 189) (by decide +kernel))) rfl
set_option maxRecDepth 20000 in
theorem t_190 : (Jvm.Cond.fieldLink "SketchCache$State" (126 : Nat) "SketchCache$Climb" "hitsBefore" "I") ∈ tk_tb := tk_in (List.mem_append_right _ (List.mem_of_getElem? (i := 190) (by decide +kernel))) rfl
set_option maxRecDepth 20000 in
theorem t_191 : (Jvm.Cond.lays "SketchCache$Climb" "SketchCache$Climb" "step" "I") ∈ tk_tb := tk_in (List.mem_append_right _ (List.mem_of_getElem? (i := 191) (by decide +kernel))) rfl
set_option maxRecDepth 20000 in
theorem t_192 : (Jvm.Cond.soleField "SketchCache$Climb" "step") ∈ tk_tb := tk_in (List.mem_append_right _ (List.mem_of_getElem? (i := 192) (by decide +kernel))) rfl
set_option maxRecDepth 20000 in
theorem t_193 : (Jvm.Cond.lays "SketchCache$Climb" "SketchCache$Climb" "period" "I") ∈ tk_tb := tk_in (List.mem_append_right _ (List.mem_of_getElem? (i := 193) (by decide +kernel))) rfl
set_option maxRecDepth 20000 in
theorem t_194 : (Jvm.Cond.soleField "SketchCache$Climb" "period") ∈ tk_tb := tk_in (List.mem_append_right _ (List.mem_of_getElem? (i := 194) (by decide +kernel))) rfl
set_option maxRecDepth 20000 in
theorem t_195 : (Jvm.Cond.lays "SketchCache$Climb" "SketchCache$Climb" "direction" "I") ∈ tk_tb := tk_in (List.mem_append_right _ (List.mem_of_getElem? (i := 195) (by decide +kernel))) rfl
set_option maxRecDepth 20000 in
theorem t_196 : (Jvm.Cond.soleField "SketchCache$Climb" "direction") ∈ tk_tb := tk_in (List.mem_append_right _ (List.mem_of_getElem? (i := 196) (by decide +kernel))) rfl
set_option maxRecDepth 20000 in
theorem t_197 : (Jvm.Cond.lays "SketchCache$Climb" "SketchCache$Climb" "hits" "I") ∈ tk_tb := tk_in (List.mem_append_right _ (List.mem_of_getElem? (i := 197) (by decide +kernel))) rfl
set_option maxRecDepth 20000 in
theorem t_198 : (Jvm.Cond.soleField "SketchCache$Climb" "hits") ∈ tk_tb := tk_in (List.mem_append_right _ (List.mem_of_getElem? (i := 198) (by decide +kernel))) rfl
set_option maxRecDepth 20000 in
theorem t_199 : (Jvm.Cond.lays "SketchCache$Climb" "SketchCache$Climb" "accesses" "I") ∈ tk_tb := tk_in (List.mem_append_right _ (List.mem_of_getElem? (i := 199) (by decide +kernel))) rfl
set_option maxRecDepth 20000 in
theorem t_200 : (Jvm.Cond.soleField "SketchCache$Climb" "accesses") ∈ tk_tb := tk_in (List.mem_append_right _ (List.mem_of_getElem? (i := 200) (by decide +kernel))) rfl
set_option maxRecDepth 20000 in
theorem t_201 : (Jvm.Cond.lays "SketchCache$Climb" "SketchCache$Climb" "hitsBefore" "I") ∈ tk_tb := tk_in (List.mem_append_right _ (List.mem_of_getElem? (i := 201) (by decide +kernel))) rfl
set_option maxRecDepth 20000 in
theorem t_202 : (Jvm.Cond.soleField "SketchCache$Climb" "hitsBefore") ∈ tk_tb := tk_in (List.mem_append_right _ (List.mem_of_getElem? (i := 202) (by decide +kernel))) rfl
set_option maxRecDepth 20000 in
theorem t_203 : (Jvm.Cond.superclass "SketchCache$Climb" "java/lang/Object") ∈ tk_tb := tk_in (List.mem_append_right _ (List.mem_of_getElem? (i := 203) (by decide +kernel))) rfl
set_option maxRecDepth 20000 in
theorem t_204 : (Jvm.Cond.classLink "SketchCache$State" (32 : Nat) "SketchCache$Cache") ∈ tk_tb := tk_in (List.mem_append_right _ (List.mem_of_getElem? (i := 204) (by decide +kernel))) rfl
set_option maxRecDepth 20000 in
theorem t_205 : (Jvm.Cond.instantiable "SketchCache$Cache" (6 : Nat)) ∈ tk_tb := tk_in (List.mem_append_right _ (List.mem_of_getElem? (i := 205) (by decide +kernel))) rfl
set_option maxRecDepth 20000 in
theorem t_206 : (Jvm.Cond.methodLink "SketchCache$State" (34 : Nat) ({ cls := "SketchCache$Cache", name := "<init>", desc := "(III)V" } : Jvm.MethodName)) ∈ tk_tb := tk_in (List.mem_append_right _ (List.mem_of_getElem? (i := 206) (by decide +kernel))) rfl
set_option maxRecDepth 20000 in
theorem t_207 : (Jvm.Cond.instanceMethod ({ cls := "SketchCache$Cache", name := "<init>", desc := "(III)V" } : Jvm.MethodName)) ∈ tk_tb := tk_in (List.mem_append_right _ (List.mem_of_getElem? (i := 207) (by decide +kernel))) rfl
set_option maxRecDepth 20000 in
theorem t_208 : (Jvm.Cond.code ({ cls := "SketchCache$Cache", name := "<init>", desc := "(III)V" } : Jvm.MethodName) prog_2_method_1_code (4 : Nat) (Option.none : Option Jvm.ClassFile.FieldType)) ∈ tk_tb := tk_in (List.mem_append_right _ (List.mem_of_getElem? (i := 208) (rfl))) rfl
set_option maxRecDepth 20000 in
theorem t_209 : (Jvm.Cond.methodLink "SketchCache$Cache" (3 : Nat) ({ cls := "java/lang/Object", name := "<init>", desc := "()V" } : Jvm.MethodName)) ∈ tk_tb := tk_in (List.mem_append_right _ (List.mem_of_getElem? (i := 209) (by decide +kernel))) rfl
set_option maxRecDepth 20000 in
theorem t_210 : (Jvm.Cond.classLink "SketchCache$Cache" (9 : Nat) "SketchCache$Rows") ∈ tk_tb := tk_in (List.mem_append_right _ (List.mem_of_getElem? (i := 210) (by decide +kernel))) rfl
set_option maxRecDepth 20000 in
theorem t_211 : (Jvm.Cond.methodLink "SketchCache$Cache" (11 : Nat) ({ cls := "SketchCache$Rows", name := "<init>", desc := "(I)V" } : Jvm.MethodName)) ∈ tk_tb := tk_in (List.mem_append_right _ (List.mem_of_getElem? (i := 211) (by decide +kernel))) rfl
set_option maxRecDepth 20000 in
theorem t_212 : (Jvm.Cond.classLink "SketchCache$Cache" (27 : Nat) "SketchCache$Sketch") ∈ tk_tb := tk_in (List.mem_append_right _ (List.mem_of_getElem? (i := 212) (by decide +kernel))) rfl
set_option maxRecDepth 20000 in
theorem t_213 : (Jvm.Cond.instantiable "SketchCache$Sketch" (11 : Nat)) ∈ tk_tb := tk_in (List.mem_append_right _ (List.mem_of_getElem? (i := 213) (by decide +kernel))) rfl
set_option maxRecDepth 20000 in
theorem t_214 : (Jvm.Cond.methodLink "SketchCache$Cache" (29 : Nat) ({ cls := "SketchCache$Sketch", name := "<init>", desc := "(I)V" } : Jvm.MethodName)) ∈ tk_tb := tk_in (List.mem_append_right _ (List.mem_of_getElem? (i := 214) (by decide +kernel))) rfl
set_option maxRecDepth 20000 in
theorem t_215 : (Jvm.Cond.instanceMethod ({ cls := "SketchCache$Sketch", name := "<init>", desc := "(I)V" } : Jvm.MethodName)) ∈ tk_tb := tk_in (List.mem_append_right _ (List.mem_of_getElem? (i := 215) (by decide +kernel))) rfl
set_option maxRecDepth 20000 in
theorem t_216 : (Jvm.Cond.code ({ cls := "SketchCache$Sketch", name := "<init>", desc := "(I)V" } : Jvm.MethodName) prog_9_method_1_code (4 : Nat) (Option.none : Option Jvm.ClassFile.FieldType)) ∈ tk_tb := tk_in (List.mem_append_right _ (List.mem_of_getElem? (i := 216) (rfl))) rfl
set_option maxRecDepth 20000 in
theorem t_217 : (Jvm.Cond.methodLink "SketchCache$Sketch" (3 : Nat) ({ cls := "java/lang/Object", name := "<init>", desc := "()V" } : Jvm.MethodName)) ∈ tk_tb := tk_in (List.mem_append_right _ (List.mem_of_getElem? (i := 217) (by decide +kernel))) rfl
set_option maxRecDepth 20000 in
theorem t_218 : (Jvm.Cond.classLink "SketchCache$Sketch" (9 : Nat) "[[I") ∈ tk_tb := tk_in (List.mem_append_right _ (List.mem_of_getElem? (i := 218) (by decide +kernel))) rfl
set_option maxRecDepth 20000 in
theorem t_219 : (Jvm.Cond.methodLink "SketchCache$Sketch" (45 : Nat) ({ cls := "java/lang/Math", name := "min", desc := "(II)I" } : Jvm.MethodName)) ∈ tk_tb := tk_in (List.mem_append_right _ (List.mem_of_getElem? (i := 219) (by decide +kernel))) rfl
set_option maxRecDepth 20000 in
theorem t_220 : (Jvm.Cond.methodLink "SketchCache$Sketch" (51 : Nat) ({ cls := "java/lang/Math", name := "max", desc := "(II)I" } : Jvm.MethodName)) ∈ tk_tb := tk_in (List.mem_append_right _ (List.mem_of_getElem? (i := 220) (by decide +kernel))) rfl
set_option maxRecDepth 20000 in
theorem t_221 : (Jvm.Cond.fieldLink "SketchCache$Sketch" (11 : Nat) "SketchCache$Sketch" "counters" "[[I") ∈ tk_tb := tk_in (List.mem_append_right _ (List.mem_of_getElem? (i := 221) (by decide +kernel))) rfl
set_option maxRecDepth 20000 in
theorem t_222 : (Jvm.Cond.fieldLink "SketchCache" (104 : Nat) "SketchCache$Sketch" "counters" "[[I") ∈ tk_tb := tk_in (List.mem_append_right _ (List.mem_of_getElem? (i := 222) (by decide +kernel))) rfl
set_option maxRecDepth 20000 in
theorem t_223 : (Jvm.Cond.fieldLink "SketchCache$Sketch" (16 : Nat) "SketchCache$Sketch" "bits" "[I") ∈ tk_tb := tk_in (List.mem_append_right _ (List.mem_of_getElem? (i := 223) (by decide +kernel))) rfl
set_option maxRecDepth 20000 in
theorem t_224 : (Jvm.Cond.fieldLink "SketchCache" (108 : Nat) "SketchCache$Sketch" "bits" "[I") ∈ tk_tb := tk_in (List.mem_append_right _ (List.mem_of_getElem? (i := 224) (by decide +kernel))) rfl
set_option maxRecDepth 20000 in
theorem t_225 : (Jvm.Cond.fieldLink "SketchCache$Sketch" (20 : Nat) "SketchCache$Sketch" "places" "[[I") ∈ tk_tb := tk_in (List.mem_append_right _ (List.mem_of_getElem? (i := 225) (by decide +kernel))) rfl
set_option maxRecDepth 20000 in
theorem t_226 : (Jvm.Cond.fieldLink "SketchCache$Sketch" (23 : Nat) "SketchCache$Sketch" "doorBits" "[[I") ∈ tk_tb := tk_in (List.mem_append_right _ (List.mem_of_getElem? (i := 226) (by decide +kernel))) rfl
set_option maxRecDepth 20000 in
theorem t_227 : (Jvm.Cond.fieldLink "SketchCache$Sketch" (26 : Nat) "SketchCache$Sketch" "addedSince" "[I") ∈ tk_tb := tk_in (List.mem_append_right _ (List.mem_of_getElem? (i := 227) (by decide +kernel))) rfl
set_option maxRecDepth 20000 in
theorem t_228 : (Jvm.Cond.fieldLink "SketchCache$Sketch" (54 : Nat) "SketchCache$Sketch" "rows" "I") ∈ tk_tb := tk_in (List.mem_append_right _ (List.mem_of_getElem? (i := 228) (by decide +kernel))) rfl
set_option maxRecDepth 20000 in
theorem t_229 : (Jvm.Cond.fieldLink "SketchCache$Sketch" (29 : Nat) "SketchCache$Sketch" "doorInUse" "I") ∈ tk_tb := tk_in (List.mem_append_right _ (List.mem_of_getElem? (i := 229) (by decide +kernel))) rfl
set_option maxRecDepth 20000 in
theorem t_230 : (Jvm.Cond.fieldLink "SketchCache$Sketch" (33 : Nat) "SketchCache$Sketch" "careful" "I") ∈ tk_tb := tk_in (List.mem_append_right _ (List.mem_of_getElem? (i := 230) (by decide +kernel))) rfl
set_option maxRecDepth 20000 in
theorem t_231 : (Jvm.Cond.fieldLink "SketchCache$Sketch" (36 : Nat) "SketchCache$Sketch" "sample" "I") ∈ tk_tb := tk_in (List.mem_append_right _ (List.mem_of_getElem? (i := 231) (by decide +kernel))) rfl
set_option maxRecDepth 20000 in
theorem t_232 : (Jvm.Cond.fieldLink "SketchCache$Sketch" (39 : Nat) "SketchCache$Sketch" "added" "I") ∈ tk_tb := tk_in (List.mem_append_right _ (List.mem_of_getElem? (i := 232) (by decide +kernel))) rfl
set_option maxRecDepth 20000 in
theorem t_233 : (Jvm.Cond.fieldLink "SketchCache$State" (112 : Nat) "SketchCache$Sketch" "added" "I") ∈ tk_tb := tk_in (List.mem_append_right _ (List.mem_of_getElem? (i := 233) (by decide +kernel))) rfl
set_option maxRecDepth 20000 in
theorem t_234 : (Jvm.Cond.fieldLink "SketchCache$Sketch" (42 : Nat) "SketchCache$Sketch" "aged" "I") ∈ tk_tb := tk_in (List.mem_append_right _ (List.mem_of_getElem? (i := 234) (by decide +kernel))) rfl
set_option maxRecDepth 20000 in
theorem t_235 : (Jvm.Cond.fieldLink "SketchCache$State" (115 : Nat) "SketchCache$Sketch" "aged" "I") ∈ tk_tb := tk_in (List.mem_append_right _ (List.mem_of_getElem? (i := 235) (by decide +kernel))) rfl
set_option maxRecDepth 20000 in
theorem t_236 : (Jvm.Cond.laysFinal "SketchCache$Sketch" "SketchCache$Sketch" "counters" "[[I") ∈ tk_tb := tk_in (List.mem_append_right _ (List.mem_of_getElem? (i := 236) (by decide +kernel))) rfl
set_option maxRecDepth 20000 in
theorem t_237 : (Jvm.Cond.soleField "SketchCache$Sketch" "counters") ∈ tk_tb := tk_in (List.mem_append_right _ (List.mem_of_getElem? (i := 237) (by decide +kernel))) rfl
set_option maxRecDepth 20000 in
theorem t_238 : (Jvm.Cond.laysFinal "SketchCache$Sketch" "SketchCache$Sketch" "bits" "[I") ∈ tk_tb := tk_in (List.mem_append_right _ (List.mem_of_getElem? (i := 238) (by decide +kernel))) rfl
set_option maxRecDepth 20000 in
theorem t_239 : (Jvm.Cond.soleField "SketchCache$Sketch" "bits") ∈ tk_tb := tk_in (List.mem_append_right _ (List.mem_of_getElem? (i := 239) (by decide +kernel))) rfl
set_option maxRecDepth 20000 in
theorem t_240 : (Jvm.Cond.laysFinal "SketchCache$Sketch" "SketchCache$Sketch" "places" "[[I") ∈ tk_tb := tk_in (List.mem_append_right _ (List.mem_of_getElem? (i := 240) (by decide +kernel))) rfl
set_option maxRecDepth 20000 in
theorem t_241 : (Jvm.Cond.soleField "SketchCache$Sketch" "places") ∈ tk_tb := tk_in (List.mem_append_right _ (List.mem_of_getElem? (i := 241) (by decide +kernel))) rfl
set_option maxRecDepth 20000 in
theorem t_242 : (Jvm.Cond.laysFinal "SketchCache$Sketch" "SketchCache$Sketch" "doorBits" "[[I") ∈ tk_tb := tk_in (List.mem_append_right _ (List.mem_of_getElem? (i := 242) (by decide +kernel))) rfl
set_option maxRecDepth 20000 in
theorem t_243 : (Jvm.Cond.soleField "SketchCache$Sketch" "doorBits") ∈ tk_tb := tk_in (List.mem_append_right _ (List.mem_of_getElem? (i := 243) (by decide +kernel))) rfl
set_option maxRecDepth 20000 in
theorem t_244 : (Jvm.Cond.laysFinal "SketchCache$Sketch" "SketchCache$Sketch" "addedSince" "[I") ∈ tk_tb := tk_in (List.mem_append_right _ (List.mem_of_getElem? (i := 244) (by decide +kernel))) rfl
set_option maxRecDepth 20000 in
theorem t_245 : (Jvm.Cond.soleField "SketchCache$Sketch" "addedSince") ∈ tk_tb := tk_in (List.mem_append_right _ (List.mem_of_getElem? (i := 245) (by decide +kernel))) rfl
set_option maxRecDepth 20000 in
theorem t_246 : (Jvm.Cond.laysFinal "SketchCache$Sketch" "SketchCache$Sketch" "rows" "I") ∈ tk_tb := tk_in (List.mem_append_right _ (List.mem_of_getElem? (i := 246) (by decide +kernel))) rfl
set_option maxRecDepth 20000 in
theorem t_247 : (Jvm.Cond.soleField "SketchCache$Sketch" "rows") ∈ tk_tb := tk_in (List.mem_append_right _ (List.mem_of_getElem? (i := 247) (by decide +kernel))) rfl
set_option maxRecDepth 20000 in
theorem t_248 : (Jvm.Cond.lays "SketchCache$Sketch" "SketchCache$Sketch" "doorInUse" "I") ∈ tk_tb := tk_in (List.mem_append_right _ (List.mem_of_getElem? (i := 248) (by decide +kernel))) rfl
set_option maxRecDepth 20000 in
theorem t_249 : (Jvm.Cond.soleField "SketchCache$Sketch" "doorInUse") ∈ tk_tb := tk_in (List.mem_append_right _ (List.mem_of_getElem? (i := 249) (by decide +kernel))) rfl
set_option maxRecDepth 20000 in
theorem t_250 : (Jvm.Cond.lays "SketchCache$Sketch" "SketchCache$Sketch" "careful" "I") ∈ tk_tb := tk_in (List.mem_append_right _ (List.mem_of_getElem? (i := 250) (by decide +kernel))) rfl
set_option maxRecDepth 20000 in
theorem t_251 : (Jvm.Cond.soleField "SketchCache$Sketch" "careful") ∈ tk_tb := tk_in (List.mem_append_right _ (List.mem_of_getElem? (i := 251) (by decide +kernel))) rfl
set_option maxRecDepth 20000 in
theorem t_252 : (Jvm.Cond.lays "SketchCache$Sketch" "SketchCache$Sketch" "sample" "I") ∈ tk_tb := tk_in (List.mem_append_right _ (List.mem_of_getElem? (i := 252) (by decide +kernel))) rfl
set_option maxRecDepth 20000 in
theorem t_253 : (Jvm.Cond.soleField "SketchCache$Sketch" "sample") ∈ tk_tb := tk_in (List.mem_append_right _ (List.mem_of_getElem? (i := 253) (by decide +kernel))) rfl
set_option maxRecDepth 20000 in
theorem t_254 : (Jvm.Cond.lays "SketchCache$Sketch" "SketchCache$Sketch" "added" "I") ∈ tk_tb := tk_in (List.mem_append_right _ (List.mem_of_getElem? (i := 254) (by decide +kernel))) rfl
set_option maxRecDepth 20000 in
theorem t_255 : (Jvm.Cond.soleField "SketchCache$Sketch" "added") ∈ tk_tb := tk_in (List.mem_append_right _ (List.mem_of_getElem? (i := 255) (by decide +kernel))) rfl
set_option maxRecDepth 20000 in
theorem t_256 : (Jvm.Cond.lays "SketchCache$Sketch" "SketchCache$Sketch" "aged" "I") ∈ tk_tb := tk_in (List.mem_append_right _ (List.mem_of_getElem? (i := 256) (by decide +kernel))) rfl
set_option maxRecDepth 20000 in
theorem t_257 : (Jvm.Cond.soleField "SketchCache$Sketch" "aged") ∈ tk_tb := tk_in (List.mem_append_right _ (List.mem_of_getElem? (i := 257) (by decide +kernel))) rfl
set_option maxRecDepth 20000 in
theorem t_258 : (Jvm.Cond.superclass "SketchCache$Sketch" "java/lang/Object") ∈ tk_tb := tk_in (List.mem_append_right _ (List.mem_of_getElem? (i := 258) (by decide +kernel))) rfl
set_option maxRecDepth 20000 in
theorem t_259 : (Jvm.Cond.fieldLink "SketchCache$Cache" (30 : Nat) "SketchCache$Cache" "sketch" "LSketchCache$Sketch;") ∈ tk_tb := tk_in (List.mem_append_right _ (List.mem_of_getElem? (i := 259) (by decide +kernel))) rfl
set_option maxRecDepth 20000 in
theorem t_260 : (Jvm.Cond.fieldLink "SketchCache$State" (45 : Nat) "SketchCache$Cache" "sketch" "LSketchCache$Sketch;") ∈ tk_tb := tk_in (List.mem_append_right _ (List.mem_of_getElem? (i := 260) (by decide +kernel))) rfl
set_option maxRecDepth 20000 in
theorem t_261 : (Jvm.Cond.fieldLink "SketchCache" (56 : Nat) "SketchCache$Cache" "sketch" "LSketchCache$Sketch;") ∈ tk_tb := tk_in (List.mem_append_right _ (List.mem_of_getElem? (i := 261) (by decide +kernel))) rfl
set_option maxRecDepth 20000 in
theorem t_262 : (Jvm.Cond.fieldLink "SketchCache$Cache" (14 : Nat) "SketchCache$Cache" "parts" "LSketchCache$Rows;") ∈ tk_tb := tk_in (List.mem_append_right _ (List.mem_of_getElem? (i := 262) (by decide +kernel))) rfl
set_option maxRecDepth 20000 in
theorem t_263 : (Jvm.Cond.fieldLink "SketchCache$State" (54 : Nat) "SketchCache$Cache" "parts" "LSketchCache$Rows;") ∈ tk_tb := tk_in (List.mem_append_right _ (List.mem_of_getElem? (i := 263) (by decide +kernel))) rfl
set_option maxRecDepth 20000 in
theorem t_264 : (Jvm.Cond.fieldLink "SketchCache" (81 : Nat) "SketchCache$Cache" "parts" "LSketchCache$Rows;") ∈ tk_tb := tk_in (List.mem_append_right _ (List.mem_of_getElem? (i := 264) (by decide +kernel))) rfl
set_option maxRecDepth 20000 in
theorem t_265 : (Jvm.Cond.fieldLink "SketchCache$Cache" (34 : Nat) "SketchCache$Cache" "capacity" "I") ∈ tk_tb := tk_in (List.mem_append_right _ (List.mem_of_getElem? (i := 265) (by decide +kernel))) rfl
set_option maxRecDepth 20000 in
theorem t_266 : (Jvm.Cond.fieldLink "SketchCache$Cache" (20 : Nat) "SketchCache$Cache" "mode" "I") ∈ tk_tb := tk_in (List.mem_append_right _ (List.mem_of_getElem? (i := 266) (by decide +kernel))) rfl
set_option maxRecDepth 20000 in
theorem t_267 : (Jvm.Cond.fieldLink "SketchCache$Cache" (37 : Nat) "SketchCache$Cache" "window" "I") ∈ tk_tb := tk_in (List.mem_append_right _ (List.mem_of_getElem? (i := 267) (by decide +kernel))) rfl
set_option maxRecDepth 20000 in
theorem t_268 : (Jvm.Cond.fieldLink "SketchCache$State" (77 : Nat) "SketchCache$Cache" "window" "I") ∈ tk_tb := tk_in (List.mem_append_right _ (List.mem_of_getElem? (i := 268) (by decide +kernel))) rfl
set_option maxRecDepth 20000 in
theorem t_269 : (Jvm.Cond.fieldLink "SketchCache$Cache" (24 : Nat) "SketchCache$Cache" "outs" "I") ∈ tk_tb := tk_in (List.mem_append_right _ (List.mem_of_getElem? (i := 269) (by decide +kernel))) rfl
set_option maxRecDepth 20000 in
theorem t_270 : (Jvm.Cond.fieldLink "SketchCache$State" (118 : Nat) "SketchCache$Cache" "outs" "I") ∈ tk_tb := tk_in (List.mem_append_right _ (List.mem_of_getElem? (i := 270) (by decide +kernel))) rfl
set_option maxRecDepth 20000 in
theorem t_271 : (Jvm.Cond.laysFinal "SketchCache$Cache" "SketchCache$Cache" "sketch" "LSketchCache$Sketch;") ∈ tk_tb := tk_in (List.mem_append_right _ (List.mem_of_getElem? (i := 271) (by decide +kernel))) rfl
set_option maxRecDepth 20000 in
theorem t_272 : (Jvm.Cond.soleField "SketchCache$Cache" "sketch") ∈ tk_tb := tk_in (List.mem_append_right _ (List.mem_of_getElem? (i := 272) (by decide +kernel))) rfl
set_option maxRecDepth 20000 in
theorem t_273 : (Jvm.Cond.laysFinal "SketchCache$Cache" "SketchCache$Cache" "parts" "LSketchCache$Rows;") ∈ tk_tb := tk_in (List.mem_append_right _ (List.mem_of_getElem? (i := 273) (by decide +kernel))) rfl
set_option maxRecDepth 20000 in
theorem t_274 : (Jvm.Cond.soleField "SketchCache$Cache" "parts") ∈ tk_tb := tk_in (List.mem_append_right _ (List.mem_of_getElem? (i := 274) (by decide +kernel))) rfl
set_option maxRecDepth 20000 in
theorem t_275 : (Jvm.Cond.laysFinal "SketchCache$Cache" "SketchCache$Cache" "capacity" "I") ∈ tk_tb := tk_in (List.mem_append_right _ (List.mem_of_getElem? (i := 275) (by decide +kernel))) rfl
set_option maxRecDepth 20000 in
theorem t_276 : (Jvm.Cond.soleField "SketchCache$Cache" "capacity") ∈ tk_tb := tk_in (List.mem_append_right _ (List.mem_of_getElem? (i := 276) (by decide +kernel))) rfl
set_option maxRecDepth 20000 in
theorem t_277 : (Jvm.Cond.lays "SketchCache$Cache" "SketchCache$Cache" "mode" "I") ∈ tk_tb := tk_in (List.mem_append_right _ (List.mem_of_getElem? (i := 277) (by decide +kernel))) rfl
set_option maxRecDepth 20000 in
theorem t_278 : (Jvm.Cond.soleField "SketchCache$Cache" "mode") ∈ tk_tb := tk_in (List.mem_append_right _ (List.mem_of_getElem? (i := 278) (by decide +kernel))) rfl
set_option maxRecDepth 20000 in
theorem t_279 : (Jvm.Cond.lays "SketchCache$Cache" "SketchCache$Cache" "window" "I") ∈ tk_tb := tk_in (List.mem_append_right _ (List.mem_of_getElem? (i := 279) (by decide +kernel))) rfl
set_option maxRecDepth 20000 in
theorem t_280 : (Jvm.Cond.soleField "SketchCache$Cache" "window") ∈ tk_tb := tk_in (List.mem_append_right _ (List.mem_of_getElem? (i := 280) (by decide +kernel))) rfl
set_option maxRecDepth 20000 in
theorem t_281 : (Jvm.Cond.lays "SketchCache$Cache" "SketchCache$Cache" "outs" "I") ∈ tk_tb := tk_in (List.mem_append_right _ (List.mem_of_getElem? (i := 281) (by decide +kernel))) rfl
set_option maxRecDepth 20000 in
theorem t_282 : (Jvm.Cond.soleField "SketchCache$Cache" "outs") ∈ tk_tb := tk_in (List.mem_append_right _ (List.mem_of_getElem? (i := 282) (by decide +kernel))) rfl
set_option maxRecDepth 20000 in
theorem t_283 : (Jvm.Cond.superclass "SketchCache$Cache" "java/lang/Object") ∈ tk_tb := tk_in (List.mem_append_right _ (List.mem_of_getElem? (i := 283) (by decide +kernel))) rfl
set_option maxRecDepth 20000 in
theorem t_284 : (Jvm.Cond.fieldLink "SketchCache$State" (37 : Nat) "SketchCache$State" "cache" "LSketchCache$Cache;") ∈ tk_tb := tk_in (List.mem_append_right _ (List.mem_of_getElem? (i := 284) (by decide +kernel))) rfl
set_option maxRecDepth 20000 in
theorem t_285 : (Jvm.Cond.fieldLink "SketchCache" (52 : Nat) "SketchCache$State" "cache" "LSketchCache$Cache;") ∈ tk_tb := tk_in (List.mem_append_right _ (List.mem_of_getElem? (i := 285) (by decide +kernel))) rfl
set_option maxRecDepth 20000 in
theorem t_286 : (Jvm.Cond.fieldLink "SketchCache$State" (12 : Nat) "SketchCache$State" "trace" "LSketchCache$Trace;") ∈ tk_tb := tk_in (List.mem_append_right _ (List.mem_of_getElem? (i := 286) (by decide +kernel))) rfl
set_option maxRecDepth 20000 in
theorem t_287 : (Jvm.Cond.fieldLink "SketchCache" (120 : Nat) "SketchCache$State" "trace" "LSketchCache$Trace;") ∈ tk_tb := tk_in (List.mem_append_right _ (List.mem_of_getElem? (i := 287) (by decide +kernel))) rfl
set_option maxRecDepth 20000 in
theorem t_288 : (Jvm.Cond.fieldLink "SketchCache$State" (21 : Nat) "SketchCache$State" "climb" "LSketchCache$Climb;") ∈ tk_tb := tk_in (List.mem_append_right _ (List.mem_of_getElem? (i := 288) (by decide +kernel))) rfl
set_option maxRecDepth 20000 in
theorem t_289 : (Jvm.Cond.fieldLink "SketchCache$State" (25 : Nat) "SketchCache$State" "accesses" "I") ∈ tk_tb := tk_in (List.mem_append_right _ (List.mem_of_getElem? (i := 289) (by decide +kernel))) rfl
set_option maxRecDepth 20000 in
theorem t_290 : (Jvm.Cond.fieldLink "SketchCache" (142 : Nat) "SketchCache$State" "accesses" "I") ∈ tk_tb := tk_in (List.mem_append_right _ (List.mem_of_getElem? (i := 290) (by decide +kernel))) rfl
set_option maxRecDepth 20000 in
theorem t_291 : (Jvm.Cond.fieldLink "SketchCache$State" (29 : Nat) "SketchCache$State" "hits" "I") ∈ tk_tb := tk_in (List.mem_append_right _ (List.mem_of_getElem? (i := 291) (by decide +kernel))) rfl
set_option maxRecDepth 20000 in
theorem t_292 : (Jvm.Cond.laysFinal "SketchCache$State" "SketchCache$State" "cache" "LSketchCache$Cache;") ∈ tk_tb := tk_in (List.mem_append_right _ (List.mem_of_getElem? (i := 292) (by decide +kernel))) rfl
set_option maxRecDepth 20000 in
theorem t_293 : (Jvm.Cond.soleField "SketchCache$State" "cache") ∈ tk_tb := tk_in (List.mem_append_right _ (List.mem_of_getElem? (i := 293) (by decide +kernel))) rfl
set_option maxRecDepth 20000 in
theorem t_294 : (Jvm.Cond.laysFinal "SketchCache$State" "SketchCache$State" "trace" "LSketchCache$Trace;") ∈ tk_tb := tk_in (List.mem_append_right _ (List.mem_of_getElem? (i := 294) (by decide +kernel))) rfl
set_option maxRecDepth 20000 in
theorem t_295 : (Jvm.Cond.soleField "SketchCache$State" "trace") ∈ tk_tb := tk_in (List.mem_append_right _ (List.mem_of_getElem? (i := 295) (by decide +kernel))) rfl
set_option maxRecDepth 20000 in
theorem t_296 : (Jvm.Cond.laysFinal "SketchCache$State" "SketchCache$State" "climb" "LSketchCache$Climb;") ∈ tk_tb := tk_in (List.mem_append_right _ (List.mem_of_getElem? (i := 296) (by decide +kernel))) rfl
set_option maxRecDepth 20000 in
theorem t_297 : (Jvm.Cond.soleField "SketchCache$State" "climb") ∈ tk_tb := tk_in (List.mem_append_right _ (List.mem_of_getElem? (i := 297) (by decide +kernel))) rfl
set_option maxRecDepth 20000 in
theorem t_298 : (Jvm.Cond.lays "SketchCache$State" "SketchCache$State" "accesses" "I") ∈ tk_tb := tk_in (List.mem_append_right _ (List.mem_of_getElem? (i := 298) (by decide +kernel))) rfl
set_option maxRecDepth 20000 in
theorem t_299 : (Jvm.Cond.soleField "SketchCache$State" "accesses") ∈ tk_tb := tk_in (List.mem_append_right _ (List.mem_of_getElem? (i := 299) (by decide +kernel))) rfl
set_option maxRecDepth 20000 in
theorem t_300 : (Jvm.Cond.lays "SketchCache$State" "SketchCache$State" "hits" "I") ∈ tk_tb := tk_in (List.mem_append_right _ (List.mem_of_getElem? (i := 300) (by decide +kernel))) rfl
set_option maxRecDepth 20000 in
theorem t_301 : (Jvm.Cond.soleField "SketchCache$State" "hits") ∈ tk_tb := tk_in (List.mem_append_right _ (List.mem_of_getElem? (i := 301) (by decide +kernel))) rfl
set_option maxRecDepth 20000 in
theorem t_302 : (Jvm.Cond.superclass "SketchCache$State" "java/lang/Object") ∈ tk_tb := tk_in (List.mem_append_right _ (List.mem_of_getElem? (i := 302) (by decide +kernel))) rfl
set_option maxRecDepth 20000 in
theorem t_303 : (Jvm.Cond.fieldLink "SketchCache" (31 : Nat) "SketchCache" "sketchRows" "I") ∈ tk_tb := tk_in (List.mem_append_right _ (List.mem_of_getElem? (i := 303) (by decide +kernel))) rfl
set_option maxRecDepth 20000 in
theorem t_304 : (Jvm.Cond.fieldLink "SketchCache" (35 : Nat) "SketchCache" "capacity" "I") ∈ tk_tb := tk_in (List.mem_append_right _ (List.mem_of_getElem? (i := 304) (by decide +kernel))) rfl
set_option maxRecDepth 20000 in
theorem t_305 : (Jvm.Cond.fieldLink "SketchCache" (38 : Nat) "SketchCache" "firstWindow" "I") ∈ tk_tb := tk_in (List.mem_append_right _ (List.mem_of_getElem? (i := 305) (by decide +kernel))) rfl
set_option maxRecDepth 20000 in
theorem t_306 : (Jvm.Cond.fieldLink "SketchCache" (44 : Nat) "SketchCache" "now" "LSketchCache$State;") ∈ tk_tb := tk_in (List.mem_append_right _ (List.mem_of_getElem? (i := 306) (by decide +kernel))) rfl
set_option maxRecDepth 20000 in
theorem t_307 : (Jvm.Cond.fieldLink "SketchCache" (11 : Nat) "SketchCache" "saved" "[LSketchCache$State;") ∈ tk_tb := tk_in (List.mem_append_right _ (List.mem_of_getElem? (i := 307) (by decide +kernel))) rfl
set_option maxRecDepth 20000 in
theorem t_308 : (Jvm.Cond.fieldLink "SketchCache" (18 : Nat) "SketchCache" "player" "LSketchCache$Player;") ∈ tk_tb := tk_in (List.mem_append_right _ (List.mem_of_getElem? (i := 308) (by decide +kernel))) rfl
set_option maxRecDepth 20000 in
theorem t_309 : (Jvm.Cond.laysFinal "SketchCache" "SketchCache" "sketchRows" "I") ∈ tk_tb := tk_in (List.mem_append_right _ (List.mem_of_getElem? (i := 309) (by decide +kernel))) rfl
set_option maxRecDepth 20000 in
theorem t_310 : (Jvm.Cond.soleField "SketchCache" "sketchRows") ∈ tk_tb := tk_in (List.mem_append_right _ (List.mem_of_getElem? (i := 310) (by decide +kernel))) rfl
set_option maxRecDepth 20000 in
theorem t_311 : (Jvm.Cond.laysFinal "SketchCache" "SketchCache" "capacity" "I") ∈ tk_tb := tk_in (List.mem_append_right _ (List.mem_of_getElem? (i := 311) (by decide +kernel))) rfl
set_option maxRecDepth 20000 in
theorem t_312 : (Jvm.Cond.soleField "SketchCache" "capacity") ∈ tk_tb := tk_in (List.mem_append_right _ (List.mem_of_getElem? (i := 312) (by decide +kernel))) rfl
set_option maxRecDepth 20000 in
theorem t_313 : (Jvm.Cond.laysFinal "SketchCache" "SketchCache" "firstWindow" "I") ∈ tk_tb := tk_in (List.mem_append_right _ (List.mem_of_getElem? (i := 313) (by decide +kernel))) rfl
set_option maxRecDepth 20000 in
theorem t_314 : (Jvm.Cond.soleField "SketchCache" "firstWindow") ∈ tk_tb := tk_in (List.mem_append_right _ (List.mem_of_getElem? (i := 314) (by decide +kernel))) rfl
set_option maxRecDepth 20000 in
theorem t_315 : (Jvm.Cond.laysFinal "SketchCache" "SketchCache" "now" "LSketchCache$State;") ∈ tk_tb := tk_in (List.mem_append_right _ (List.mem_of_getElem? (i := 315) (by decide +kernel))) rfl
set_option maxRecDepth 20000 in
theorem t_316 : (Jvm.Cond.soleField "SketchCache" "now") ∈ tk_tb := tk_in (List.mem_append_right _ (List.mem_of_getElem? (i := 316) (by decide +kernel))) rfl
set_option maxRecDepth 20000 in
theorem t_317 : (Jvm.Cond.laysFinal "SketchCache" "SketchCache" "saved" "[LSketchCache$State;") ∈ tk_tb := tk_in (List.mem_append_right _ (List.mem_of_getElem? (i := 317) (by decide +kernel))) rfl
set_option maxRecDepth 20000 in
theorem t_318 : (Jvm.Cond.soleField "SketchCache" "saved") ∈ tk_tb := tk_in (List.mem_append_right _ (List.mem_of_getElem? (i := 318) (by decide +kernel))) rfl
set_option maxRecDepth 20000 in
theorem t_319 : (Jvm.Cond.laysFinal "SketchCache" "SketchCache" "player" "LSketchCache$Player;") ∈ tk_tb := tk_in (List.mem_append_right _ (List.mem_of_getElem? (i := 319) (by decide +kernel))) rfl
set_option maxRecDepth 20000 in
theorem t_320 : (Jvm.Cond.soleField "SketchCache" "player") ∈ tk_tb := tk_in (List.mem_append_right _ (List.mem_of_getElem? (i := 320) (by decide +kernel))) rfl
set_option maxRecDepth 20000 in
theorem t_321 : (Jvm.Cond.superclass "SketchCache" "java/lang/Object") ∈ tk_tb := tk_in (List.mem_append_right _ (List.mem_of_getElem? (i := 321) (by decide +kernel))) rfl
set_option maxRecDepth 20000 in
theorem t_322 : (Jvm.Cond.methodLink "SketchCacheLaw" (21 : Nat) ({ cls := "SketchCache", name := "place", desc := "(III)I" } : Jvm.MethodName)) ∈ tk_tb := tk_in (List.mem_append_right _ (List.mem_of_getElem? (i := 322) (by decide +kernel))) rfl
set_option maxRecDepth 20000 in
theorem t_323 : (Jvm.Cond.instanceMethod ({ cls := "SketchCache", name := "place", desc := "(III)I" } : Jvm.MethodName)) ∈ tk_tb := tk_in (List.mem_append_right _ (List.mem_of_getElem? (i := 323) (by decide +kernel))) rfl
set_option maxRecDepth 20000 in
theorem t_324 : (Jvm.Cond.selects "SketchCache" ({ cls := "SketchCache", name := "place", desc := "(III)I" } : Jvm.MethodName) ({ cls := "SketchCache", name := "place", desc := "(III)I" } : Jvm.MethodName)) ∈ tk_tb := tk_in (List.mem_append_right _ (List.mem_of_getElem? (i := 324) (by decide +kernel))) rfl
set_option maxRecDepth 20000 in
theorem t_325 : (Jvm.Cond.code ({ cls := "SketchCache", name := "place", desc := "(III)I" } : Jvm.MethodName) prog_1_method_2_code (4 : Nat) (Option.some Jvm.ClassFile.FieldType.int)) ∈ tk_tb := tk_in (List.mem_append_right _ (List.mem_of_getElem? (i := 325) (rfl))) rfl
set_option maxRecDepth 20000 in
theorem t_326 : (Jvm.Cond.methodLink "SketchCache" (48 : Nat) ({ cls := "SketchCache", name := "isKey", desc := "(I)Z" } : Jvm.MethodName)) ∈ tk_tb := tk_in (List.mem_append_right _ (List.mem_of_getElem? (i := 326) (by decide +kernel))) rfl
set_option maxRecDepth 20000 in
theorem t_327 : (Jvm.Cond.static ({ cls := "SketchCache", name := "isKey", desc := "(I)Z" } : Jvm.MethodName)) ∈ tk_tb := tk_in (List.mem_append_right _ (List.mem_of_getElem? (i := 327) (by decide +kernel))) rfl
set_option maxRecDepth 20000 in
theorem t_328 : (Jvm.Cond.code ({ cls := "SketchCache", name := "isKey", desc := "(I)Z" } : Jvm.MethodName) prog_1_method_22_code (1 : Nat) (Option.some Jvm.ClassFile.FieldType.boolean)) ∈ tk_tb := tk_in (List.mem_append_right _ (List.mem_of_getElem? (i := 328) (rfl))) rfl
set_option maxRecDepth 20000 in
theorem t_329 : (Jvm.Cond.methodLink "SketchCache" (62 : Nat) ({ cls := "SketchCache$Sketch", name := "tellPlace", desc := "(III)I" } : Jvm.MethodName)) ∈ tk_tb := tk_in (List.mem_append_right _ (List.mem_of_getElem? (i := 329) (by decide +kernel))) rfl
set_option maxRecDepth 20000 in
theorem t_330 : (Jvm.Cond.instanceMethod ({ cls := "SketchCache$Sketch", name := "tellPlace", desc := "(III)I" } : Jvm.MethodName)) ∈ tk_tb := tk_in (List.mem_append_right _ (List.mem_of_getElem? (i := 330) (by decide +kernel))) rfl
set_option maxRecDepth 20000 in
theorem t_331 : (Jvm.Cond.selects "SketchCache$Sketch" ({ cls := "SketchCache$Sketch", name := "tellPlace", desc := "(III)I" } : Jvm.MethodName) ({ cls := "SketchCache$Sketch", name := "tellPlace", desc := "(III)I" } : Jvm.MethodName)) ∈ tk_tb := tk_in (List.mem_append_right _ (List.mem_of_getElem? (i := 331) (by decide +kernel))) rfl
set_option maxRecDepth 20000 in
theorem t_332 : (Jvm.Cond.code ({ cls := "SketchCache$Sketch", name := "tellPlace", desc := "(III)I" } : Jvm.MethodName) prog_9_method_2_code (5 : Nat) (Option.some Jvm.ClassFile.FieldType.int)) ∈ tk_tb := tk_in (List.mem_append_right _ (List.mem_of_getElem? (i := 332) (rfl))) rfl
set_option maxRecDepth 20000 in
theorem t_333 : (Jvm.Cond.methodLink "SketchCache$Sketch" (57 : Nat) ({ cls := "SketchCache$Sketch", name := "forgetIfChanged", desc := "(II)V" } : Jvm.MethodName)) ∈ tk_tb := tk_in (List.mem_append_right _ (List.mem_of_getElem? (i := 333) (by decide +kernel))) rfl
set_option maxRecDepth 20000 in
theorem q_334 : (Jvm.Cond.privateMethod ({ cls := "SketchCache$Sketch", name := "forgetIfChanged", desc := "(II)V" } : Jvm.MethodName)) ∈ lw_tbl := List.mem_append_right _ (List.mem_of_getElem? (i := 334) (by decide +kernel))
set_option maxRecDepth 20000 in
theorem t_335 : (Jvm.Cond.instanceMethod ({ cls := "SketchCache$Sketch", name := "forgetIfChanged", desc := "(II)V" } : Jvm.MethodName)) ∈ tk_tb := tk_in (List.mem_append_right _ (List.mem_of_getElem? (i := 335) (by decide +kernel))) rfl
set_option maxRecDepth 20000 in
theorem t_336 : (Jvm.Cond.code ({ cls := "SketchCache$Sketch", name := "forgetIfChanged", desc := "(II)V" } : Jvm.MethodName) prog_9_method_7_code (3 : Nat) (Option.none : Option Jvm.ClassFile.FieldType)) ∈ tk_tb := tk_in (List.mem_append_right _ (List.mem_of_getElem? (i := 336) (rfl))) rfl
set_option maxRecDepth 20000 in
theorem t_337 : (Jvm.Cond.methodLink "SketchCache$Sketch" (61 : Nat) ({ cls := "java/util/Arrays", name := "fill", desc := "([II)V" } : Jvm.MethodName)) ∈ tk_tb := tk_in (List.mem_append_right _ (List.mem_of_getElem? (i := 337) (by decide +kernel))) rfl
set_option maxRecDepth 20000 in
theorem t_338 : (Jvm.Cond.methodLink "SketchCacheLaw" (26 : Nat) ({ cls := "SketchCache", name := "door", desc := "(III)I" } : Jvm.MethodName)) ∈ tk_tb := tk_in (List.mem_append_right _ (List.mem_of_getElem? (i := 338) (by decide +kernel))) rfl
set_option maxRecDepth 20000 in
theorem t_339 : (Jvm.Cond.instanceMethod ({ cls := "SketchCache", name := "door", desc := "(III)I" } : Jvm.MethodName)) ∈ tk_tb := tk_in (List.mem_append_right _ (List.mem_of_getElem? (i := 339) (by decide +kernel))) rfl
set_option maxRecDepth 20000 in
theorem t_340 : (Jvm.Cond.selects "SketchCache" ({ cls := "SketchCache", name := "door", desc := "(III)I" } : Jvm.MethodName) ({ cls := "SketchCache", name := "door", desc := "(III)I" } : Jvm.MethodName)) ∈ tk_tb := tk_in (List.mem_append_right _ (List.mem_of_getElem? (i := 340) (by decide +kernel))) rfl
set_option maxRecDepth 20000 in
theorem t_341 : (Jvm.Cond.code ({ cls := "SketchCache", name := "door", desc := "(III)I" } : Jvm.MethodName) prog_1_method_3_code (4 : Nat) (Option.some Jvm.ClassFile.FieldType.int)) ∈ tk_tb := tk_in (List.mem_append_right _ (List.mem_of_getElem? (i := 341) (rfl))) rfl
set_option maxRecDepth 20000 in
theorem t_342 : (Jvm.Cond.methodLink "SketchCache" (68 : Nat) ({ cls := "SketchCache$Sketch", name := "tellBit", desc := "(III)I" } : Jvm.MethodName)) ∈ tk_tb := tk_in (List.mem_append_right _ (List.mem_of_getElem? (i := 342) (by decide +kernel))) rfl
set_option maxRecDepth 20000 in
theorem t_343 : (Jvm.Cond.instanceMethod ({ cls := "SketchCache$Sketch", name := "tellBit", desc := "(III)I" } : Jvm.MethodName)) ∈ tk_tb := tk_in (List.mem_append_right _ (List.mem_of_getElem? (i := 343) (by decide +kernel))) rfl
set_option maxRecDepth 20000 in
theorem t_344 : (Jvm.Cond.selects "SketchCache$Sketch" ({ cls := "SketchCache$Sketch", name := "tellBit", desc := "(III)I" } : Jvm.MethodName) ({ cls := "SketchCache$Sketch", name := "tellBit", desc := "(III)I" } : Jvm.MethodName)) ∈ tk_tb := tk_in (List.mem_append_right _ (List.mem_of_getElem? (i := 344) (by decide +kernel))) rfl
set_option maxRecDepth 20000 in
theorem t_345 : (Jvm.Cond.code ({ cls := "SketchCache$Sketch", name := "tellBit", desc := "(III)I" } : Jvm.MethodName) prog_9_method_3_code (5 : Nat) (Option.some Jvm.ClassFile.FieldType.int)) ∈ tk_tb := tk_in (List.mem_append_right _ (List.mem_of_getElem? (i := 345) (rfl))) rfl
set_option maxRecDepth 20000 in
theorem t_346 : (Jvm.Cond.methodLink "SketchCacheLaw" (30 : Nat) ({ cls := "SketchCache", name := "rule", desc := "(II)I" } : Jvm.MethodName)) ∈ tk_tb := tk_in (List.mem_append_right _ (List.mem_of_getElem? (i := 346) (by decide +kernel))) rfl
set_option maxRecDepth 20000 in
theorem t_347 : (Jvm.Cond.instanceMethod ({ cls := "SketchCache", name := "rule", desc := "(II)I" } : Jvm.MethodName)) ∈ tk_tb := tk_in (List.mem_append_right _ (List.mem_of_getElem? (i := 347) (by decide +kernel))) rfl
set_option maxRecDepth 20000 in
theorem t_348 : (Jvm.Cond.selects "SketchCache" ({ cls := "SketchCache", name := "rule", desc := "(II)I" } : Jvm.MethodName) ({ cls := "SketchCache", name := "rule", desc := "(II)I" } : Jvm.MethodName)) ∈ tk_tb := tk_in (List.mem_append_right _ (List.mem_of_getElem? (i := 348) (by decide +kernel))) rfl
set_option maxRecDepth 20000 in
theorem t_349 : (Jvm.Cond.code ({ cls := "SketchCache", name := "rule", desc := "(II)I" } : Jvm.MethodName) prog_1_method_4_code (3 : Nat) (Option.some Jvm.ClassFile.FieldType.int)) ∈ tk_tb := tk_in (List.mem_append_right _ (List.mem_of_getElem? (i := 349) (rfl))) rfl
set_option maxRecDepth 20000 in
theorem t_350 : (Jvm.Cond.fieldLink "SketchCache" (71 : Nat) "SketchCache" "LEAST_RULE" "[I") ∈ tk_tb := tk_in (List.mem_append_right _ (List.mem_of_getElem? (i := 350) (by decide +kernel))) rfl
set_option maxRecDepth 20000 in
theorem q_351 : (Jvm.Cond.laysStatic "SketchCache" "LEAST_RULE" "[I") ∈ lw_tbl := List.mem_append_right _ (List.mem_of_getElem? (i := 351) (by decide +kernel))
set_option maxRecDepth 20000 in
theorem t_352 : (Jvm.Cond.fieldLink "SketchCache" (75 : Nat) "SketchCache" "MOST_RULE" "[I") ∈ tk_tb := tk_in (List.mem_append_right _ (List.mem_of_getElem? (i := 352) (by decide +kernel))) rfl
set_option maxRecDepth 20000 in
theorem q_353 : (Jvm.Cond.laysStatic "SketchCache" "MOST_RULE" "[I") ∈ lw_tbl := List.mem_append_right _ (List.mem_of_getElem? (i := 353) (by decide +kernel))
set_option maxRecDepth 20000 in
theorem t_354 : (Jvm.Cond.methodLink "SketchCache" (78 : Nat) ({ cls := "SketchCache$State", name := "tellRule", desc := "(II)I" } : Jvm.MethodName)) ∈ tk_tb := tk_in (List.mem_append_right _ (List.mem_of_getElem? (i := 354) (by decide +kernel))) rfl
set_option maxRecDepth 20000 in
theorem t_355 : (Jvm.Cond.instanceMethod ({ cls := "SketchCache$State", name := "tellRule", desc := "(II)I" } : Jvm.MethodName)) ∈ tk_tb := tk_in (List.mem_append_right _ (List.mem_of_getElem? (i := 355) (by decide +kernel))) rfl
set_option maxRecDepth 20000 in
theorem t_356 : (Jvm.Cond.selects "SketchCache$State" ({ cls := "SketchCache$State", name := "tellRule", desc := "(II)I" } : Jvm.MethodName) ({ cls := "SketchCache$State", name := "tellRule", desc := "(II)I" } : Jvm.MethodName)) ∈ tk_tb := tk_in (List.mem_append_right _ (List.mem_of_getElem? (i := 356) (by decide +kernel))) rfl
set_option maxRecDepth 20000 in
theorem t_357 : (Jvm.Cond.code ({ cls := "SketchCache$State", name := "tellRule", desc := "(II)I" } : Jvm.MethodName) prog_10_method_3_code (3 : Nat) (Option.some Jvm.ClassFile.FieldType.int)) ∈ tk_tb := tk_in (List.mem_append_right _ (List.mem_of_getElem? (i := 357) (rfl))) rfl
set_option maxRecDepth 20000 in
theorem t_358 : (Jvm.Cond.methodLink "SketchCache$State" (83 : Nat) ({ cls := "SketchCache$Sketch", name := "tellDoorInUse", desc := "(I)I" } : Jvm.MethodName)) ∈ tk_tb := tk_in (List.mem_append_right _ (List.mem_of_getElem? (i := 358) (by decide +kernel))) rfl
set_option maxRecDepth 20000 in
theorem t_359 : (Jvm.Cond.instanceMethod ({ cls := "SketchCache$Sketch", name := "tellDoorInUse", desc := "(I)I" } : Jvm.MethodName)) ∈ tk_tb := tk_in (List.mem_append_right _ (List.mem_of_getElem? (i := 359) (by decide +kernel))) rfl
set_option maxRecDepth 20000 in
theorem t_360 : (Jvm.Cond.selects "SketchCache$Sketch" ({ cls := "SketchCache$Sketch", name := "tellDoorInUse", desc := "(I)I" } : Jvm.MethodName) ({ cls := "SketchCache$Sketch", name := "tellDoorInUse", desc := "(I)I" } : Jvm.MethodName)) ∈ tk_tb := tk_in (List.mem_append_right _ (List.mem_of_getElem? (i := 360) (by decide +kernel))) rfl
set_option maxRecDepth 20000 in
theorem t_361 : (Jvm.Cond.code ({ cls := "SketchCache$Sketch", name := "tellDoorInUse", desc := "(I)I" } : Jvm.MethodName) prog_9_method_4_code (3 : Nat) (Option.some Jvm.ClassFile.FieldType.int)) ∈ tk_tb := tk_in (List.mem_append_right _ (List.mem_of_getElem? (i := 361) (rfl))) rfl
set_option maxRecDepth 20000 in
theorem t_362 : (Jvm.Cond.methodLink "SketchCache$State" (87 : Nat) ({ cls := "SketchCache$Sketch", name := "tellCareful", desc := "(I)I" } : Jvm.MethodName)) ∈ tk_tb := tk_in (List.mem_append_right _ (List.mem_of_getElem? (i := 362) (by decide +kernel))) rfl
set_option maxRecDepth 20000 in
theorem t_363 : (Jvm.Cond.instanceMethod ({ cls := "SketchCache$Sketch", name := "tellCareful", desc := "(I)I" } : Jvm.MethodName)) ∈ tk_tb := tk_in (List.mem_append_right _ (List.mem_of_getElem? (i := 363) (by decide +kernel))) rfl
set_option maxRecDepth 20000 in
theorem t_364 : (Jvm.Cond.selects "SketchCache$Sketch" ({ cls := "SketchCache$Sketch", name := "tellCareful", desc := "(I)I" } : Jvm.MethodName) ({ cls := "SketchCache$Sketch", name := "tellCareful", desc := "(I)I" } : Jvm.MethodName)) ∈ tk_tb := tk_in (List.mem_append_right _ (List.mem_of_getElem? (i := 364) (by decide +kernel))) rfl
set_option maxRecDepth 20000 in
theorem t_365 : (Jvm.Cond.code ({ cls := "SketchCache$Sketch", name := "tellCareful", desc := "(I)I" } : Jvm.MethodName) prog_9_method_5_code (3 : Nat) (Option.some Jvm.ClassFile.FieldType.int)) ∈ tk_tb := tk_in (List.mem_append_right _ (List.mem_of_getElem? (i := 365) (rfl))) rfl
set_option maxRecDepth 20000 in
theorem t_366 : (Jvm.Cond.methodLink "SketchCache$State" (90 : Nat) ({ cls := "SketchCache$Sketch", name := "tellSample", desc := "(I)I" } : Jvm.MethodName)) ∈ tk_tb := tk_in (List.mem_append_right _ (List.mem_of_getElem? (i := 366) (by decide +kernel))) rfl
set_option maxRecDepth 20000 in
theorem t_367 : (Jvm.Cond.instanceMethod ({ cls := "SketchCache$Sketch", name := "tellSample", desc := "(I)I" } : Jvm.MethodName)) ∈ tk_tb := tk_in (List.mem_append_right _ (List.mem_of_getElem? (i := 367) (by decide +kernel))) rfl
set_option maxRecDepth 20000 in
theorem t_368 : (Jvm.Cond.selects "SketchCache$Sketch" ({ cls := "SketchCache$Sketch", name := "tellSample", desc := "(I)I" } : Jvm.MethodName) ({ cls := "SketchCache$Sketch", name := "tellSample", desc := "(I)I" } : Jvm.MethodName)) ∈ tk_tb := tk_in (List.mem_append_right _ (List.mem_of_getElem? (i := 368) (by decide +kernel))) rfl
set_option maxRecDepth 20000 in
theorem t_369 : (Jvm.Cond.code ({ cls := "SketchCache$Sketch", name := "tellSample", desc := "(I)I" } : Jvm.MethodName) prog_9_method_6_code (3 : Nat) (Option.some Jvm.ClassFile.FieldType.int)) ∈ tk_tb := tk_in (List.mem_append_right _ (List.mem_of_getElem? (i := 369) (rfl))) rfl
set_option maxRecDepth 20000 in
theorem t_370 : (Jvm.Cond.methodLink "SketchCache$State" (93 : Nat) ({ cls := "SketchCache$Cache", name := "tellMode", desc := "(I)I" } : Jvm.MethodName)) ∈ tk_tb := tk_in (List.mem_append_right _ (List.mem_of_getElem? (i := 370) (by decide +kernel))) rfl
set_option maxRecDepth 20000 in
theorem t_371 : (Jvm.Cond.instanceMethod ({ cls := "SketchCache$Cache", name := "tellMode", desc := "(I)I" } : Jvm.MethodName)) ∈ tk_tb := tk_in (List.mem_append_right _ (List.mem_of_getElem? (i := 371) (by decide +kernel))) rfl
set_option maxRecDepth 20000 in
theorem t_372 : (Jvm.Cond.selects "SketchCache$Cache" ({ cls := "SketchCache$Cache", name := "tellMode", desc := "(I)I" } : Jvm.MethodName) ({ cls := "SketchCache$Cache", name := "tellMode", desc := "(I)I" } : Jvm.MethodName)) ∈ tk_tb := tk_in (List.mem_append_right _ (List.mem_of_getElem? (i := 372) (by decide +kernel))) rfl
set_option maxRecDepth 20000 in
theorem t_373 : (Jvm.Cond.code ({ cls := "SketchCache$Cache", name := "tellMode", desc := "(I)I" } : Jvm.MethodName) prog_2_method_2_code (3 : Nat) (Option.some Jvm.ClassFile.FieldType.int)) ∈ tk_tb := tk_in (List.mem_append_right _ (List.mem_of_getElem? (i := 373) (rfl))) rfl
set_option maxRecDepth 20000 in
theorem t_374 : (Jvm.Cond.methodLink "SketchCache$State" (96 : Nat) ({ cls := "SketchCache$Climb", name := "tellStep", desc := "(I)I" } : Jvm.MethodName)) ∈ tk_tb := tk_in (List.mem_append_right _ (List.mem_of_getElem? (i := 374) (by decide +kernel))) rfl
set_option maxRecDepth 20000 in
theorem t_375 : (Jvm.Cond.instanceMethod ({ cls := "SketchCache$Climb", name := "tellStep", desc := "(I)I" } : Jvm.MethodName)) ∈ tk_tb := tk_in (List.mem_append_right _ (List.mem_of_getElem? (i := 375) (by decide +kernel))) rfl
set_option maxRecDepth 20000 in
theorem t_376 : (Jvm.Cond.selects "SketchCache$Climb" ({ cls := "SketchCache$Climb", name := "tellStep", desc := "(I)I" } : Jvm.MethodName) ({ cls := "SketchCache$Climb", name := "tellStep", desc := "(I)I" } : Jvm.MethodName)) ∈ tk_tb := tk_in (List.mem_append_right _ (List.mem_of_getElem? (i := 376) (by decide +kernel))) rfl
set_option maxRecDepth 20000 in
theorem t_377 : (Jvm.Cond.code ({ cls := "SketchCache$Climb", name := "tellStep", desc := "(I)I" } : Jvm.MethodName) prog_3_method_2_code (3 : Nat) (Option.some Jvm.ClassFile.FieldType.int)) ∈ tk_tb := tk_in (List.mem_append_right _ (List.mem_of_getElem? (i := 377) (rfl))) rfl
set_option maxRecDepth 20000 in
theorem t_378 : (Jvm.Cond.methodLink "SketchCache$Climb" (28 : Nat) ({ cls := "SketchCache$Climb", name := "beginAnew", desc := "()V" } : Jvm.MethodName)) ∈ tk_tb := tk_in (List.mem_append_right _ (List.mem_of_getElem? (i := 378) (by decide +kernel))) rfl
set_option maxRecDepth 20000 in
theorem q_379 : (Jvm.Cond.privateMethod ({ cls := "SketchCache$Climb", name := "beginAnew", desc := "()V" } : Jvm.MethodName)) ∈ lw_tbl := List.mem_append_right _ (List.mem_of_getElem? (i := 379) (by decide +kernel))
set_option maxRecDepth 20000 in
theorem t_380 : (Jvm.Cond.instanceMethod ({ cls := "SketchCache$Climb", name := "beginAnew", desc := "()V" } : Jvm.MethodName)) ∈ tk_tb := tk_in (List.mem_append_right _ (List.mem_of_getElem? (i := 380) (by decide +kernel))) rfl
set_option maxRecDepth 20000 in
theorem t_381 : (Jvm.Cond.code ({ cls := "SketchCache$Climb", name := "beginAnew", desc := "()V" } : Jvm.MethodName) prog_3_method_4_code (1 : Nat) (Option.none : Option Jvm.ClassFile.FieldType)) ∈ tk_tb := tk_in (List.mem_append_right _ (List.mem_of_getElem? (i := 381) (rfl))) rfl
set_option maxRecDepth 20000 in
theorem t_382 : (Jvm.Cond.methodLink "SketchCache$State" (99 : Nat) ({ cls := "SketchCache$Climb", name := "tellPeriod", desc := "(I)I" } : Jvm.MethodName)) ∈ tk_tb := tk_in (List.mem_append_right _ (List.mem_of_getElem? (i := 382) (by decide +kernel))) rfl
set_option maxRecDepth 20000 in
theorem t_383 : (Jvm.Cond.instanceMethod ({ cls := "SketchCache$Climb", name := "tellPeriod", desc := "(I)I" } : Jvm.MethodName)) ∈ tk_tb := tk_in (List.mem_append_right _ (List.mem_of_getElem? (i := 383) (by decide +kernel))) rfl
set_option maxRecDepth 20000 in
theorem t_384 : (Jvm.Cond.selects "SketchCache$Climb" ({ cls := "SketchCache$Climb", name := "tellPeriod", desc := "(I)I" } : Jvm.MethodName) ({ cls := "SketchCache$Climb", name := "tellPeriod", desc := "(I)I" } : Jvm.MethodName)) ∈ tk_tb := tk_in (List.mem_append_right _ (List.mem_of_getElem? (i := 384) (by decide +kernel))) rfl
set_option maxRecDepth 20000 in
theorem t_385 : (Jvm.Cond.code ({ cls := "SketchCache$Climb", name := "tellPeriod", desc := "(I)I" } : Jvm.MethodName) prog_3_method_3_code (3 : Nat) (Option.some Jvm.ClassFile.FieldType.int)) ∈ tk_tb := tk_in (List.mem_append_right _ (List.mem_of_getElem? (i := 385) (rfl))) rfl
set_option maxRecDepth 20000 in
theorem t_386 : (Jvm.Cond.methodLink "SketchCacheLaw" (35 : Nat) ({ cls := "SketchCache", name := "size", desc := "(II)I" } : Jvm.MethodName)) ∈ tk_tb := tk_in (List.mem_append_right _ (List.mem_of_getElem? (i := 386) (by decide +kernel))) rfl
set_option maxRecDepth 20000 in
theorem t_387 : (Jvm.Cond.instanceMethod ({ cls := "SketchCache", name := "size", desc := "(II)I" } : Jvm.MethodName)) ∈ tk_tb := tk_in (List.mem_append_right _ (List.mem_of_getElem? (i := 387) (by decide +kernel))) rfl
set_option maxRecDepth 20000 in
theorem t_388 : (Jvm.Cond.selects "SketchCache" ({ cls := "SketchCache", name := "size", desc := "(II)I" } : Jvm.MethodName) ({ cls := "SketchCache", name := "size", desc := "(II)I" } : Jvm.MethodName)) ∈ tk_tb := tk_in (List.mem_append_right _ (List.mem_of_getElem? (i := 388) (by decide +kernel))) rfl
set_option maxRecDepth 20000 in
theorem t_389 : (Jvm.Cond.code ({ cls := "SketchCache", name := "size", desc := "(II)I" } : Jvm.MethodName) prog_1_method_5_code (5 : Nat) (Option.some Jvm.ClassFile.FieldType.int)) ∈ tk_tb := tk_in (List.mem_append_right _ (List.mem_of_getElem? (i := 389) (rfl))) rfl
set_option maxRecDepth 20000 in
theorem t_390 : (Jvm.Cond.methodLink "SketchCacheLaw" (39 : Nat) ({ cls := "SketchCache", name := "access", desc := "(I)I" } : Jvm.MethodName)) ∈ tk_tb := tk_in (List.mem_append_right _ (List.mem_of_getElem? (i := 390) (by decide +kernel))) rfl
set_option maxRecDepth 20000 in
theorem t_391 : (Jvm.Cond.instanceMethod ({ cls := "SketchCache", name := "access", desc := "(I)I" } : Jvm.MethodName)) ∈ tk_tb := tk_in (List.mem_append_right _ (List.mem_of_getElem? (i := 391) (by decide +kernel))) rfl
set_option maxRecDepth 20000 in
theorem t_392 : (Jvm.Cond.selects "SketchCache" ({ cls := "SketchCache", name := "access", desc := "(I)I" } : Jvm.MethodName) ({ cls := "SketchCache", name := "access", desc := "(I)I" } : Jvm.MethodName)) ∈ tk_tb := tk_in (List.mem_append_right _ (List.mem_of_getElem? (i := 392) (by decide +kernel))) rfl
set_option maxRecDepth 20000 in
theorem t_393 : (Jvm.Cond.code ({ cls := "SketchCache", name := "access", desc := "(I)I" } : Jvm.MethodName) prog_1_method_6_code (2 : Nat) (Option.some Jvm.ClassFile.FieldType.int)) ∈ tk_tb := tk_in (List.mem_append_right _ (List.mem_of_getElem? (i := 393) (rfl))) rfl
set_option maxRecDepth 20000 in
theorem t_394 : (Jvm.Cond.methodLink "SketchCache" (93 : Nat) ({ cls := "SketchCache$State", name := "visit", desc := "(I)I" } : Jvm.MethodName)) ∈ tk_tb := tk_in (List.mem_append_right _ (List.mem_of_getElem? (i := 394) (by decide +kernel))) rfl
set_option maxRecDepth 20000 in
theorem t_395 : (Jvm.Cond.instanceMethod ({ cls := "SketchCache$State", name := "visit", desc := "(I)I" } : Jvm.MethodName)) ∈ tk_tb := tk_in (List.mem_append_right _ (List.mem_of_getElem? (i := 395) (by decide +kernel))) rfl
set_option maxRecDepth 20000 in
theorem t_396 : (Jvm.Cond.selects "SketchCache$State" ({ cls := "SketchCache$State", name := "visit", desc := "(I)I" } : Jvm.MethodName) ({ cls := "SketchCache$State", name := "visit", desc := "(I)I" } : Jvm.MethodName)) ∈ tk_tb := tk_in (List.mem_append_right _ (List.mem_of_getElem? (i := 396) (by decide +kernel))) rfl
set_option maxRecDepth 20000 in
theorem t_397 : (Jvm.Cond.code ({ cls := "SketchCache$State", name := "visit", desc := "(I)I" } : Jvm.MethodName) prog_10_method_2_code (5 : Nat) (Option.some Jvm.ClassFile.FieldType.int)) ∈ tk_tb := tk_in (List.mem_append_right _ (List.mem_of_getElem? (i := 397) (rfl))) rfl
set_option maxRecDepth 20000 in
theorem t_398 : (Jvm.Cond.methodLink "SketchCache$State" (41 : Nat) ({ cls := "SketchCache$Trace", name := "note", desc := "(I)V" } : Jvm.MethodName)) ∈ tk_tb := tk_in (List.mem_append_right _ (List.mem_of_getElem? (i := 398) (by decide +kernel))) rfl
set_option maxRecDepth 20000 in
theorem t_399 : (Jvm.Cond.instanceMethod ({ cls := "SketchCache$Trace", name := "note", desc := "(I)V" } : Jvm.MethodName)) ∈ tk_tb := tk_in (List.mem_append_right _ (List.mem_of_getElem? (i := 399) (by decide +kernel))) rfl
set_option maxRecDepth 20000 in
theorem t_400 : (Jvm.Cond.selects "SketchCache$Trace" ({ cls := "SketchCache$Trace", name := "note", desc := "(I)V" } : Jvm.MethodName) ({ cls := "SketchCache$Trace", name := "note", desc := "(I)V" } : Jvm.MethodName)) ∈ tk_tb := tk_in (List.mem_append_right _ (List.mem_of_getElem? (i := 400) (by decide +kernel))) rfl
set_option maxRecDepth 20000 in
theorem t_401 : (Jvm.Cond.code ({ cls := "SketchCache$Trace", name := "note", desc := "(I)V" } : Jvm.MethodName) prog_11_method_2_code (2 : Nat) (Option.none : Option Jvm.ClassFile.FieldType)) ∈ tk_tb := tk_in (List.mem_append_right _ (List.mem_of_getElem? (i := 401) (rfl))) rfl
set_option maxRecDepth 20000 in
theorem t_402 : (Jvm.Cond.methodLink "SketchCache$State" (49 : Nat) ({ cls := "SketchCache$Sketch", name := "put", desc := "(I)V" } : Jvm.MethodName)) ∈ tk_tb := tk_in (List.mem_append_right _ (List.mem_of_getElem? (i := 402) (by decide +kernel))) rfl
set_option maxRecDepth 20000 in
theorem t_403 : (Jvm.Cond.instanceMethod ({ cls := "SketchCache$Sketch", name := "put", desc := "(I)V" } : Jvm.MethodName)) ∈ tk_tb := tk_in (List.mem_append_right _ (List.mem_of_getElem? (i := 403) (by decide +kernel))) rfl
set_option maxRecDepth 20000 in
theorem t_404 : (Jvm.Cond.selects "SketchCache$Sketch" ({ cls := "SketchCache$Sketch", name := "put", desc := "(I)V" } : Jvm.MethodName) ({ cls := "SketchCache$Sketch", name := "put", desc := "(I)V" } : Jvm.MethodName)) ∈ tk_tb := tk_in (List.mem_append_right _ (List.mem_of_getElem? (i := 404) (by decide +kernel))) rfl
set_option maxRecDepth 20000 in
theorem t_405 : (Jvm.Cond.code ({ cls := "SketchCache$Sketch", name := "put", desc := "(I)V" } : Jvm.MethodName) prog_9_method_8_code (2 : Nat) (Option.none : Option Jvm.ClassFile.FieldType)) ∈ tk_tb := tk_in (List.mem_append_right _ (List.mem_of_getElem? (i := 405) (rfl))) rfl
set_option maxRecDepth 20000 in
theorem t_406 : (Jvm.Cond.methodLink "SketchCache$Sketch" (67 : Nat) ({ cls := "SketchCache$Sketch", name := "isPastDoor", desc := "(I)Z" } : Jvm.MethodName)) ∈ tk_tb := tk_in (List.mem_append_right _ (List.mem_of_getElem? (i := 406) (by decide +kernel))) rfl
set_option maxRecDepth 20000 in
theorem q_407 : (Jvm.Cond.privateMethod ({ cls := "SketchCache$Sketch", name := "isPastDoor", desc := "(I)Z" } : Jvm.MethodName)) ∈ lw_tbl := List.mem_append_right _ (List.mem_of_getElem? (i := 407) (by decide +kernel))
set_option maxRecDepth 20000 in
theorem t_408 : (Jvm.Cond.instanceMethod ({ cls := "SketchCache$Sketch", name := "isPastDoor", desc := "(I)Z" } : Jvm.MethodName)) ∈ tk_tb := tk_in (List.mem_append_right _ (List.mem_of_getElem? (i := 408) (by decide +kernel))) rfl
set_option maxRecDepth 20000 in
theorem t_409 : (Jvm.Cond.code ({ cls := "SketchCache$Sketch", name := "isPastDoor", desc := "(I)Z" } : Jvm.MethodName) prog_9_method_9_code (2 : Nat) (Option.some Jvm.ClassFile.FieldType.boolean)) ∈ tk_tb := tk_in (List.mem_append_right _ (List.mem_of_getElem? (i := 409) (rfl))) rfl
set_option maxRecDepth 20000 in
theorem t_410 : (Jvm.Cond.methodLink "SketchCache$Sketch" (71 : Nat) ({ cls := "SketchCache$Sketch", name := "growCounters", desc := "(I)V" } : Jvm.MethodName)) ∈ tk_tb := tk_in (List.mem_append_right _ (List.mem_of_getElem? (i := 410) (by decide +kernel))) rfl
set_option maxRecDepth 20000 in
theorem q_411 : (Jvm.Cond.privateMethod ({ cls := "SketchCache$Sketch", name := "growCounters", desc := "(I)V" } : Jvm.MethodName)) ∈ lw_tbl := List.mem_append_right _ (List.mem_of_getElem? (i := 411) (by decide +kernel))
set_option maxRecDepth 20000 in
theorem t_412 : (Jvm.Cond.instanceMethod ({ cls := "SketchCache$Sketch", name := "growCounters", desc := "(I)V" } : Jvm.MethodName)) ∈ tk_tb := tk_in (List.mem_append_right _ (List.mem_of_getElem? (i := 412) (by decide +kernel))) rfl
set_option maxRecDepth 20000 in
theorem t_413 : (Jvm.Cond.code ({ cls := "SketchCache$Sketch", name := "growCounters", desc := "(I)V" } : Jvm.MethodName) prog_9_method_10_code (6 : Nat) (Option.none : Option Jvm.ClassFile.FieldType)) ∈ tk_tb := tk_in (List.mem_append_right _ (List.mem_of_getElem? (i := 413) (rfl))) rfl
set_option maxRecDepth 20000 in
theorem t_414 : (Jvm.Cond.methodLink "SketchCache$Sketch" (78 : Nat) ({ cls := "SketchCache$Sketch", name := "smallestCounter", desc := "(I)I" } : Jvm.MethodName)) ∈ tk_tb := tk_in (List.mem_append_right _ (List.mem_of_getElem? (i := 414) (by decide +kernel))) rfl
set_option maxRecDepth 20000 in
theorem q_415 : (Jvm.Cond.privateMethod ({ cls := "SketchCache$Sketch", name := "smallestCounter", desc := "(I)I" } : Jvm.MethodName)) ∈ lw_tbl := List.mem_append_right _ (List.mem_of_getElem? (i := 415) (by decide +kernel))
set_option maxRecDepth 20000 in
theorem t_416 : (Jvm.Cond.instanceMethod ({ cls := "SketchCache$Sketch", name := "smallestCounter", desc := "(I)I" } : Jvm.MethodName)) ∈ tk_tb := tk_in (List.mem_append_right _ (List.mem_of_getElem? (i := 416) (by decide +kernel))) rfl
set_option maxRecDepth 20000 in
theorem t_417 : (Jvm.Cond.code ({ cls := "SketchCache$Sketch", name := "smallestCounter", desc := "(I)I" } : Jvm.MethodName) prog_9_method_11_code (5 : Nat) (Option.some Jvm.ClassFile.FieldType.int)) ∈ tk_tb := tk_in (List.mem_append_right _ (List.mem_of_getElem? (i := 417) (rfl))) rfl
set_option maxRecDepth 20000 in
theorem t_418 : (Jvm.Cond.methodLink "SketchCache$Sketch" (75 : Nat) ({ cls := "SketchCache$Sketch", name := "age", desc := "()V" } : Jvm.MethodName)) ∈ tk_tb := tk_in (List.mem_append_right _ (List.mem_of_getElem? (i := 418) (by decide +kernel))) rfl
set_option maxRecDepth 20000 in
theorem q_419 : (Jvm.Cond.privateMethod ({ cls := "SketchCache$Sketch", name := "age", desc := "()V" } : Jvm.MethodName)) ∈ lw_tbl := List.mem_append_right _ (List.mem_of_getElem? (i := 419) (by decide +kernel))
set_option maxRecDepth 20000 in
theorem t_420 : (Jvm.Cond.instanceMethod ({ cls := "SketchCache$Sketch", name := "age", desc := "()V" } : Jvm.MethodName)) ∈ tk_tb := tk_in (List.mem_append_right _ (List.mem_of_getElem? (i := 420) (by decide +kernel))) rfl
set_option maxRecDepth 20000 in
theorem t_421 : (Jvm.Cond.code ({ cls := "SketchCache$Sketch", name := "age", desc := "()V" } : Jvm.MethodName) prog_9_method_12_code (3 : Nat) (Option.none : Option Jvm.ClassFile.FieldType)) ∈ tk_tb := tk_in (List.mem_append_right _ (List.mem_of_getElem? (i := 421) (rfl))) rfl
set_option maxRecDepth 20000 in
theorem t_422 : (Jvm.Cond.methodLink "SketchCache$State" (64 : Nat) ({ cls := "SketchCache$Cache", name := "touch", desc := "(I)V" } : Jvm.MethodName)) ∈ tk_tb := tk_in (List.mem_append_right _ (List.mem_of_getElem? (i := 422) (by decide +kernel))) rfl
set_option maxRecDepth 20000 in
theorem t_423 : (Jvm.Cond.instanceMethod ({ cls := "SketchCache$Cache", name := "touch", desc := "(I)V" } : Jvm.MethodName)) ∈ tk_tb := tk_in (List.mem_append_right _ (List.mem_of_getElem? (i := 423) (by decide +kernel))) rfl
set_option maxRecDepth 20000 in
theorem t_424 : (Jvm.Cond.selects "SketchCache$Cache" ({ cls := "SketchCache$Cache", name := "touch", desc := "(I)V" } : Jvm.MethodName) ({ cls := "SketchCache$Cache", name := "touch", desc := "(I)V" } : Jvm.MethodName)) ∈ tk_tb := tk_in (List.mem_append_right _ (List.mem_of_getElem? (i := 424) (by decide +kernel))) rfl
set_option maxRecDepth 20000 in
theorem t_425 : (Jvm.Cond.code ({ cls := "SketchCache$Cache", name := "touch", desc := "(I)V" } : Jvm.MethodName) prog_2_method_7_code (3 : Nat) (Option.none : Option Jvm.ClassFile.FieldType)) ∈ tk_tb := tk_in (List.mem_append_right _ (List.mem_of_getElem? (i := 425) (rfl))) rfl
set_option maxRecDepth 20000 in
theorem t_426 : (Jvm.Cond.methodLink "SketchCache$Cache" (54 : Nat) ({ cls := "SketchCache$Rows", name := "moveToLast", desc := "(II)V" } : Jvm.MethodName)) ∈ tk_tb := tk_in (List.mem_append_right _ (List.mem_of_getElem? (i := 426) (by decide +kernel))) rfl
set_option maxRecDepth 20000 in
theorem t_427 : (Jvm.Cond.instanceMethod ({ cls := "SketchCache$Rows", name := "moveToLast", desc := "(II)V" } : Jvm.MethodName)) ∈ tk_tb := tk_in (List.mem_append_right _ (List.mem_of_getElem? (i := 427) (by decide +kernel))) rfl
set_option maxRecDepth 20000 in
theorem t_428 : (Jvm.Cond.selects "SketchCache$Rows" ({ cls := "SketchCache$Rows", name := "moveToLast", desc := "(II)V" } : Jvm.MethodName) ({ cls := "SketchCache$Rows", name := "moveToLast", desc := "(II)V" } : Jvm.MethodName)) ∈ tk_tb := tk_in (List.mem_append_right _ (List.mem_of_getElem? (i := 428) (by decide +kernel))) rfl
set_option maxRecDepth 20000 in
theorem t_429 : (Jvm.Cond.code ({ cls := "SketchCache$Rows", name := "moveToLast", desc := "(II)V" } : Jvm.MethodName) prog_7_method_6_code (3 : Nat) (Option.none : Option Jvm.ClassFile.FieldType)) ∈ tk_tb := tk_in (List.mem_append_right _ (List.mem_of_getElem? (i := 429) (rfl))) rfl
set_option maxRecDepth 20000 in
theorem t_430 : (Jvm.Cond.methodLink "SketchCache$Rows" (41 : Nat) ({ cls := "SketchCache$Rows", name := "takeOut", desc := "(I)V" } : Jvm.MethodName)) ∈ tk_tb := tk_in (List.mem_append_right _ (List.mem_of_getElem? (i := 430) (by decide +kernel))) rfl
set_option maxRecDepth 20000 in
theorem t_431 : (Jvm.Cond.instanceMethod ({ cls := "SketchCache$Rows", name := "takeOut", desc := "(I)V" } : Jvm.MethodName)) ∈ tk_tb := tk_in (List.mem_append_right _ (List.mem_of_getElem? (i := 431) (by decide +kernel))) rfl
set_option maxRecDepth 20000 in
theorem t_432 : (Jvm.Cond.selects "SketchCache$Rows" ({ cls := "SketchCache$Rows", name := "takeOut", desc := "(I)V" } : Jvm.MethodName) ({ cls := "SketchCache$Rows", name := "takeOut", desc := "(I)V" } : Jvm.MethodName)) ∈ tk_tb := tk_in (List.mem_append_right _ (List.mem_of_getElem? (i := 432) (by decide +kernel))) rfl
set_option maxRecDepth 20000 in
theorem t_433 : (Jvm.Cond.code ({ cls := "SketchCache$Rows", name := "takeOut", desc := "(I)V" } : Jvm.MethodName) prog_7_method_4_code (7 : Nat) (Option.none : Option Jvm.ClassFile.FieldType)) ∈ tk_tb := tk_in (List.mem_append_right _ (List.mem_of_getElem? (i := 433) (rfl))) rfl
set_option maxRecDepth 20000 in
theorem t_434 : (Jvm.Cond.methodLink "SketchCache$Rows" (45 : Nat) ({ cls := "SketchCache$Rows", name := "append", desc := "(II)V" } : Jvm.MethodName)) ∈ tk_tb := tk_in (List.mem_append_right _ (List.mem_of_getElem? (i := 434) (by decide +kernel))) rfl
set_option maxRecDepth 20000 in
theorem t_435 : (Jvm.Cond.instanceMethod ({ cls := "SketchCache$Rows", name := "append", desc := "(II)V" } : Jvm.MethodName)) ∈ tk_tb := tk_in (List.mem_append_right _ (List.mem_of_getElem? (i := 435) (by decide +kernel))) rfl
set_option maxRecDepth 20000 in
theorem t_436 : (Jvm.Cond.selects "SketchCache$Rows" ({ cls := "SketchCache$Rows", name := "append", desc := "(II)V" } : Jvm.MethodName) ({ cls := "SketchCache$Rows", name := "append", desc := "(II)V" } : Jvm.MethodName)) ∈ tk_tb := tk_in (List.mem_append_right _ (List.mem_of_getElem? (i := 436) (by decide +kernel))) rfl
set_option maxRecDepth 20000 in
theorem t_437 : (Jvm.Cond.code ({ cls := "SketchCache$Rows", name := "append", desc := "(II)V" } : Jvm.MethodName) prog_7_method_5_code (4 : Nat) (Option.none : Option Jvm.ClassFile.FieldType)) ∈ tk_tb := tk_in (List.mem_append_right _ (List.mem_of_getElem? (i := 437) (rfl))) rfl
set_option maxRecDepth 20000 in
theorem t_438 : (Jvm.Cond.methodLink "SketchCache$Cache" (58 : Nat) ({ cls := "SketchCache$Cache", name := "settle", desc := "()V" } : Jvm.MethodName)) ∈ tk_tb := tk_in (List.mem_append_right _ (List.mem_of_getElem? (i := 438) (by decide +kernel))) rfl
set_option maxRecDepth 20000 in
theorem q_439 : (Jvm.Cond.privateMethod ({ cls := "SketchCache$Cache", name := "settle", desc := "()V" } : Jvm.MethodName)) ∈ lw_tbl := List.mem_append_right _ (List.mem_of_getElem? (i := 439) (by decide +kernel))
set_option maxRecDepth 20000 in
theorem t_440 : (Jvm.Cond.instanceMethod ({ cls := "SketchCache$Cache", name := "settle", desc := "()V" } : Jvm.MethodName)) ∈ tk_tb := tk_in (List.mem_append_right _ (List.mem_of_getElem? (i := 440) (by decide +kernel))) rfl
set_option maxRecDepth 20000 in
theorem t_441 : (Jvm.Cond.code ({ cls := "SketchCache$Cache", name := "settle", desc := "()V" } : Jvm.MethodName) prog_2_method_8_code (3 : Nat) (Option.none : Option Jvm.ClassFile.FieldType)) ∈ tk_tb := tk_in (List.mem_append_right _ (List.mem_of_getElem? (i := 441) (rfl))) rfl
set_option maxRecDepth 20000 in
theorem t_442 : (Jvm.Cond.methodLink "SketchCache$Cache" (61 : Nat) ({ cls := "SketchCache$Cache", name := "protectedLimit", desc := "()I" } : Jvm.MethodName)) ∈ tk_tb := tk_in (List.mem_append_right _ (List.mem_of_getElem? (i := 442) (by decide +kernel))) rfl
set_option maxRecDepth 20000 in
theorem t_443 : (Jvm.Cond.instanceMethod ({ cls := "SketchCache$Cache", name := "protectedLimit", desc := "()I" } : Jvm.MethodName)) ∈ tk_tb := tk_in (List.mem_append_right _ (List.mem_of_getElem? (i := 443) (by decide +kernel))) rfl
set_option maxRecDepth 20000 in
theorem t_444 : (Jvm.Cond.selects "SketchCache$Cache" ({ cls := "SketchCache$Cache", name := "protectedLimit", desc := "()I" } : Jvm.MethodName) ({ cls := "SketchCache$Cache", name := "protectedLimit", desc := "()I" } : Jvm.MethodName)) ∈ tk_tb := tk_in (List.mem_append_right _ (List.mem_of_getElem? (i := 444) (by decide +kernel))) rfl
set_option maxRecDepth 20000 in
theorem t_445 : (Jvm.Cond.code ({ cls := "SketchCache$Cache", name := "protectedLimit", desc := "()I" } : Jvm.MethodName) prog_2_method_3_code (1 : Nat) (Option.some Jvm.ClassFile.FieldType.int)) ∈ tk_tb := tk_in (List.mem_append_right _ (List.mem_of_getElem? (i := 445) (rfl))) rfl
set_option maxRecDepth 20000 in
theorem t_446 : (Jvm.Cond.methodLink "SketchCache$State" (67 : Nat) ({ cls := "SketchCache$Cache", name := "bringIn", desc := "(I)V" } : Jvm.MethodName)) ∈ tk_tb := tk_in (List.mem_append_right _ (List.mem_of_getElem? (i := 446) (by decide +kernel))) rfl
set_option maxRecDepth 20000 in
theorem t_447 : (Jvm.Cond.instanceMethod ({ cls := "SketchCache$Cache", name := "bringIn", desc := "(I)V" } : Jvm.MethodName)) ∈ tk_tb := tk_in (List.mem_append_right _ (List.mem_of_getElem? (i := 447) (by decide +kernel))) rfl
set_option maxRecDepth 20000 in
theorem t_448 : (Jvm.Cond.selects "SketchCache$Cache" ({ cls := "SketchCache$Cache", name := "bringIn", desc := "(I)V" } : Jvm.MethodName) ({ cls := "SketchCache$Cache", name := "bringIn", desc := "(I)V" } : Jvm.MethodName)) ∈ tk_tb := tk_in (List.mem_append_right _ (List.mem_of_getElem? (i := 448) (by decide +kernel))) rfl
set_option maxRecDepth 20000 in
theorem t_449 : (Jvm.Cond.code ({ cls := "SketchCache$Cache", name := "bringIn", desc := "(I)V" } : Jvm.MethodName) prog_2_method_9_code (3 : Nat) (Option.none : Option Jvm.ClassFile.FieldType)) ∈ tk_tb := tk_in (List.mem_append_right _ (List.mem_of_getElem? (i := 449) (rfl))) rfl
set_option maxRecDepth 20000 in
theorem t_450 : (Jvm.Cond.methodLink "SketchCache$Cache" (71 : Nat) ({ cls := "SketchCache$Cache", name := "judge", desc := "(I)V" } : Jvm.MethodName)) ∈ tk_tb := tk_in (List.mem_append_right _ (List.mem_of_getElem? (i := 450) (by decide +kernel))) rfl
set_option maxRecDepth 20000 in
theorem q_451 : (Jvm.Cond.privateMethod ({ cls := "SketchCache$Cache", name := "judge", desc := "(I)V" } : Jvm.MethodName)) ∈ lw_tbl := List.mem_append_right _ (List.mem_of_getElem? (i := 451) (by decide +kernel))
set_option maxRecDepth 20000 in
theorem t_452 : (Jvm.Cond.instanceMethod ({ cls := "SketchCache$Cache", name := "judge", desc := "(I)V" } : Jvm.MethodName)) ∈ tk_tb := tk_in (List.mem_append_right _ (List.mem_of_getElem? (i := 452) (by decide +kernel))) rfl
set_option maxRecDepth 20000 in
theorem t_453 : (Jvm.Cond.code ({ cls := "SketchCache$Cache", name := "judge", desc := "(I)V" } : Jvm.MethodName) prog_2_method_11_code (5 : Nat) (Option.none : Option Jvm.ClassFile.FieldType)) ∈ tk_tb := tk_in (List.mem_append_right _ (List.mem_of_getElem? (i := 453) (rfl))) rfl
set_option maxRecDepth 20000 in
theorem t_454 : (Jvm.Cond.methodLink "SketchCache$Cache" (80 : Nat) ({ cls := "SketchCache$Cache", name := "victimsNeeded", desc := "(I)I" } : Jvm.MethodName)) ∈ tk_tb := tk_in (List.mem_append_right _ (List.mem_of_getElem? (i := 454) (by decide +kernel))) rfl
set_option maxRecDepth 20000 in
theorem q_455 : (Jvm.Cond.privateMethod ({ cls := "SketchCache$Cache", name := "victimsNeeded", desc := "(I)I" } : Jvm.MethodName)) ∈ lw_tbl := List.mem_append_right _ (List.mem_of_getElem? (i := 455) (by decide +kernel))
set_option maxRecDepth 20000 in
theorem t_456 : (Jvm.Cond.instanceMethod ({ cls := "SketchCache$Cache", name := "victimsNeeded", desc := "(I)I" } : Jvm.MethodName)) ∈ tk_tb := tk_in (List.mem_append_right _ (List.mem_of_getElem? (i := 456) (by decide +kernel))) rfl
set_option maxRecDepth 20000 in
theorem t_457 : (Jvm.Cond.code ({ cls := "SketchCache$Cache", name := "victimsNeeded", desc := "(I)I" } : Jvm.MethodName) prog_2_method_12_code (5 : Nat) (Option.some Jvm.ClassFile.FieldType.int)) ∈ tk_tb := tk_in (List.mem_append_right _ (List.mem_of_getElem? (i := 457) (rfl))) rfl
set_option maxRecDepth 20000 in
theorem t_458 : (Jvm.Cond.methodLink "SketchCache$Cache" (94 : Nat) ({ cls := "SketchCache$Cache", name := "unitsInMain", desc := "()I" } : Jvm.MethodName)) ∈ tk_tb := tk_in (List.mem_append_right _ (List.mem_of_getElem? (i := 458) (by decide +kernel))) rfl
set_option maxRecDepth 20000 in
theorem q_459 : (Jvm.Cond.privateMethod ({ cls := "SketchCache$Cache", name := "unitsInMain", desc := "()I" } : Jvm.MethodName)) ∈ lw_tbl := List.mem_append_right _ (List.mem_of_getElem? (i := 459) (by decide +kernel))
set_option maxRecDepth 20000 in
theorem t_460 : (Jvm.Cond.instanceMethod ({ cls := "SketchCache$Cache", name := "unitsInMain", desc := "()I" } : Jvm.MethodName)) ∈ tk_tb := tk_in (List.mem_append_right _ (List.mem_of_getElem? (i := 460) (by decide +kernel))) rfl
set_option maxRecDepth 20000 in
theorem t_461 : (Jvm.Cond.code ({ cls := "SketchCache$Cache", name := "unitsInMain", desc := "()I" } : Jvm.MethodName) prog_2_method_6_code (1 : Nat) (Option.some Jvm.ClassFile.FieldType.int)) ∈ tk_tb := tk_in (List.mem_append_right _ (List.mem_of_getElem? (i := 461) (rfl))) rfl
set_option maxRecDepth 20000 in
theorem t_462 : (Jvm.Cond.methodLink "SketchCache$Cache" (44 : Nat) ({ cls := "SketchCache$Cache", name := "keysInMain", desc := "()I" } : Jvm.MethodName)) ∈ tk_tb := tk_in (List.mem_append_right _ (List.mem_of_getElem? (i := 462) (by decide +kernel))) rfl
set_option maxRecDepth 20000 in
theorem q_463 : (Jvm.Cond.privateMethod ({ cls := "SketchCache$Cache", name := "keysInMain", desc := "()I" } : Jvm.MethodName)) ∈ lw_tbl := List.mem_append_right _ (List.mem_of_getElem? (i := 463) (by decide +kernel))
set_option maxRecDepth 20000 in
theorem t_464 : (Jvm.Cond.instanceMethod ({ cls := "SketchCache$Cache", name := "keysInMain", desc := "()I" } : Jvm.MethodName)) ∈ tk_tb := tk_in (List.mem_append_right _ (List.mem_of_getElem? (i := 464) (by decide +kernel))) rfl
set_option maxRecDepth 20000 in
theorem t_465 : (Jvm.Cond.code ({ cls := "SketchCache$Cache", name := "keysInMain", desc := "()I" } : Jvm.MethodName) prog_2_method_5_code (1 : Nat) (Option.some Jvm.ClassFile.FieldType.int)) ∈ tk_tb := tk_in (List.mem_append_right _ (List.mem_of_getElem? (i := 465) (rfl))) rfl
set_option maxRecDepth 20000 in
theorem t_466 : (Jvm.Cond.methodLink "SketchCache$Cache" (88 : Nat) ({ cls := "SketchCache$Cache", name := "victimAt", desc := "(I)I" } : Jvm.MethodName)) ∈ tk_tb := tk_in (List.mem_append_right _ (List.mem_of_getElem? (i := 466) (by decide +kernel))) rfl
set_option maxRecDepth 20000 in
theorem q_467 : (Jvm.Cond.privateMethod ({ cls := "SketchCache$Cache", name := "victimAt", desc := "(I)I" } : Jvm.MethodName)) ∈ lw_tbl := List.mem_append_right _ (List.mem_of_getElem? (i := 467) (by decide +kernel))
set_option maxRecDepth 20000 in
theorem t_468 : (Jvm.Cond.instanceMethod ({ cls := "SketchCache$Cache", name := "victimAt", desc := "(I)I" } : Jvm.MethodName)) ∈ tk_tb := tk_in (List.mem_append_right _ (List.mem_of_getElem? (i := 468) (by decide +kernel))) rfl
set_option maxRecDepth 20000 in
theorem t_469 : (Jvm.Cond.code ({ cls := "SketchCache$Cache", name := "victimAt", desc := "(I)I" } : Jvm.MethodName) prog_2_method_15_code (3 : Nat) (Option.some Jvm.ClassFile.FieldType.int)) ∈ tk_tb := tk_in (List.mem_append_right _ (List.mem_of_getElem? (i := 469) (rfl))) rfl
set_option maxRecDepth 20000 in
theorem t_470 : (Jvm.Cond.methodLink "SketchCache$Cache" (105 : Nat) ({ cls := "SketchCache$Rows", name := "keyAt", desc := "(II)I" } : Jvm.MethodName)) ∈ tk_tb := tk_in (List.mem_append_right _ (List.mem_of_getElem? (i := 470) (by decide +kernel))) rfl
set_option maxRecDepth 20000 in
theorem t_471 : (Jvm.Cond.instanceMethod ({ cls := "SketchCache$Rows", name := "keyAt", desc := "(II)I" } : Jvm.MethodName)) ∈ tk_tb := tk_in (List.mem_append_right _ (List.mem_of_getElem? (i := 471) (by decide +kernel))) rfl
set_option maxRecDepth 20000 in
theorem t_472 : (Jvm.Cond.selects "SketchCache$Rows" ({ cls := "SketchCache$Rows", name := "keyAt", desc := "(II)I" } : Jvm.MethodName) ({ cls := "SketchCache$Rows", name := "keyAt", desc := "(II)I" } : Jvm.MethodName)) ∈ tk_tb := tk_in (List.mem_append_right _ (List.mem_of_getElem? (i := 472) (by decide +kernel))) rfl
set_option maxRecDepth 20000 in
theorem t_473 : (Jvm.Cond.code ({ cls := "SketchCache$Rows", name := "keyAt", desc := "(II)I" } : Jvm.MethodName) prog_7_method_3_code (3 : Nat) (Option.some Jvm.ClassFile.FieldType.int)) ∈ tk_tb := tk_in (List.mem_append_right _ (List.mem_of_getElem? (i := 473) (rfl))) rfl
set_option maxRecDepth 20000 in
theorem t_474 : (Jvm.Cond.methodLink "SketchCache$Cache" (84 : Nat) ({ cls := "SketchCache$Cache", name := "victimsBeaten", desc := "(II)I" } : Jvm.MethodName)) ∈ tk_tb := tk_in (List.mem_append_right _ (List.mem_of_getElem? (i := 474) (by decide +kernel))) rfl
set_option maxRecDepth 20000 in
theorem q_475 : (Jvm.Cond.privateMethod ({ cls := "SketchCache$Cache", name := "victimsBeaten", desc := "(II)I" } : Jvm.MethodName)) ∈ lw_tbl := List.mem_append_right _ (List.mem_of_getElem? (i := 475) (by decide +kernel))
set_option maxRecDepth 20000 in
theorem t_476 : (Jvm.Cond.instanceMethod ({ cls := "SketchCache$Cache", name := "victimsBeaten", desc := "(II)I" } : Jvm.MethodName)) ∈ tk_tb := tk_in (List.mem_append_right _ (List.mem_of_getElem? (i := 476) (by decide +kernel))) rfl
set_option maxRecDepth 20000 in
theorem t_477 : (Jvm.Cond.code ({ cls := "SketchCache$Cache", name := "victimsBeaten", desc := "(II)I" } : Jvm.MethodName) prog_2_method_13_code (7 : Nat) (Option.some Jvm.ClassFile.FieldType.int)) ∈ tk_tb := tk_in (List.mem_append_right _ (List.mem_of_getElem? (i := 477) (rfl))) rfl
set_option maxRecDepth 20000 in
theorem t_478 : (Jvm.Cond.methodLink "SketchCache$Cache" (97 : Nat) ({ cls := "SketchCache$Sketch", name := "guess", desc := "(I)I" } : Jvm.MethodName)) ∈ tk_tb := tk_in (List.mem_append_right _ (List.mem_of_getElem? (i := 478) (by decide +kernel))) rfl
set_option maxRecDepth 20000 in
theorem t_479 : (Jvm.Cond.instanceMethod ({ cls := "SketchCache$Sketch", name := "guess", desc := "(I)I" } : Jvm.MethodName)) ∈ tk_tb := tk_in (List.mem_append_right _ (List.mem_of_getElem? (i := 479) (by decide +kernel))) rfl
set_option maxRecDepth 20000 in
theorem t_480 : (Jvm.Cond.selects "SketchCache$Sketch" ({ cls := "SketchCache$Sketch", name := "guess", desc := "(I)I" } : Jvm.MethodName) ({ cls := "SketchCache$Sketch", name := "guess", desc := "(I)I" } : Jvm.MethodName)) ∈ tk_tb := tk_in (List.mem_append_right _ (List.mem_of_getElem? (i := 480) (by decide +kernel))) rfl
set_option maxRecDepth 20000 in
theorem t_481 : (Jvm.Cond.code ({ cls := "SketchCache$Sketch", name := "guess", desc := "(I)I" } : Jvm.MethodName) prog_9_method_13_code (3 : Nat) (Option.some Jvm.ClassFile.FieldType.int)) ∈ tk_tb := tk_in (List.mem_append_right _ (List.mem_of_getElem? (i := 481) (rfl))) rfl
set_option maxRecDepth 20000 in
theorem t_482 : (Jvm.Cond.methodLink "SketchCache$Cache" (77 : Nat) ({ cls := "SketchCache$Rows", name := "takeOut", desc := "(I)V" } : Jvm.MethodName)) ∈ tk_tb := tk_in (List.mem_append_right _ (List.mem_of_getElem? (i := 482) (by decide +kernel))) rfl
set_option maxRecDepth 20000 in
theorem t_483 : (Jvm.Cond.methodLink "SketchCache$Cache" (74 : Nat) ({ cls := "SketchCache$Rows", name := "append", desc := "(II)V" } : Jvm.MethodName)) ∈ tk_tb := tk_in (List.mem_append_right _ (List.mem_of_getElem? (i := 483) (by decide +kernel))) rfl
set_option maxRecDepth 20000 in
theorem t_484 : (Jvm.Cond.methodLink "SketchCache$Cache" (91 : Nat) ({ cls := "SketchCache$Cache", name := "spare", desc := "(I)V" } : Jvm.MethodName)) ∈ tk_tb := tk_in (List.mem_append_right _ (List.mem_of_getElem? (i := 484) (by decide +kernel))) rfl
set_option maxRecDepth 20000 in
theorem q_485 : (Jvm.Cond.privateMethod ({ cls := "SketchCache$Cache", name := "spare", desc := "(I)V" } : Jvm.MethodName)) ∈ lw_tbl := List.mem_append_right _ (List.mem_of_getElem? (i := 485) (by decide +kernel))
set_option maxRecDepth 20000 in
theorem t_486 : (Jvm.Cond.instanceMethod ({ cls := "SketchCache$Cache", name := "spare", desc := "(I)V" } : Jvm.MethodName)) ∈ tk_tb := tk_in (List.mem_append_right _ (List.mem_of_getElem? (i := 486) (by decide +kernel))) rfl
set_option maxRecDepth 20000 in
theorem t_487 : (Jvm.Cond.code ({ cls := "SketchCache$Cache", name := "spare", desc := "(I)V" } : Jvm.MethodName) prog_2_method_14_code (5 : Nat) (Option.none : Option Jvm.ClassFile.FieldType)) ∈ tk_tb := tk_in (List.mem_append_right _ (List.mem_of_getElem? (i := 487) (rfl))) rfl
set_option maxRecDepth 20000 in
theorem t_488 : (Jvm.Cond.methodLink "SketchCache$Cache" (100 : Nat) ({ cls := "java/lang/Math", name := "min", desc := "(II)I" } : Jvm.MethodName)) ∈ tk_tb := tk_in (List.mem_append_right _ (List.mem_of_getElem? (i := 488) (by decide +kernel))) rfl
set_option maxRecDepth 20000 in
theorem t_489 : (Jvm.Cond.methodLink "SketchCache$State" (70 : Nat) ({ cls := "SketchCache$Cache", name := "overflow", desc := "()V" } : Jvm.MethodName)) ∈ tk_tb := tk_in (List.mem_append_right _ (List.mem_of_getElem? (i := 489) (by decide +kernel))) rfl
set_option maxRecDepth 20000 in
theorem t_490 : (Jvm.Cond.instanceMethod ({ cls := "SketchCache$Cache", name := "overflow", desc := "()V" } : Jvm.MethodName)) ∈ tk_tb := tk_in (List.mem_append_right _ (List.mem_of_getElem? (i := 490) (by decide +kernel))) rfl
set_option maxRecDepth 20000 in
theorem t_491 : (Jvm.Cond.selects "SketchCache$Cache" ({ cls := "SketchCache$Cache", name := "overflow", desc := "()V" } : Jvm.MethodName) ({ cls := "SketchCache$Cache", name := "overflow", desc := "()V" } : Jvm.MethodName)) ∈ tk_tb := tk_in (List.mem_append_right _ (List.mem_of_getElem? (i := 491) (by decide +kernel))) rfl
set_option maxRecDepth 20000 in
theorem t_492 : (Jvm.Cond.code ({ cls := "SketchCache$Cache", name := "overflow", desc := "()V" } : Jvm.MethodName) prog_2_method_10_code (3 : Nat) (Option.none : Option Jvm.ClassFile.FieldType)) ∈ tk_tb := tk_in (List.mem_append_right _ (List.mem_of_getElem? (i := 492) (rfl))) rfl
set_option maxRecDepth 20000 in
theorem t_493 : (Jvm.Cond.methodLink "SketchCache$State" (73 : Nat) ({ cls := "SketchCache$Climb", name := "growthAfter", desc := "(Z)I" } : Jvm.MethodName)) ∈ tk_tb := tk_in (List.mem_append_right _ (List.mem_of_getElem? (i := 493) (by decide +kernel))) rfl
set_option maxRecDepth 20000 in
theorem t_494 : (Jvm.Cond.instanceMethod ({ cls := "SketchCache$Climb", name := "growthAfter", desc := "(Z)I" } : Jvm.MethodName)) ∈ tk_tb := tk_in (List.mem_append_right _ (List.mem_of_getElem? (i := 494) (by decide +kernel))) rfl
set_option maxRecDepth 20000 in
theorem t_495 : (Jvm.Cond.selects "SketchCache$Climb" ({ cls := "SketchCache$Climb", name := "growthAfter", desc := "(Z)I" } : Jvm.MethodName) ({ cls := "SketchCache$Climb", name := "growthAfter", desc := "(Z)I" } : Jvm.MethodName)) ∈ tk_tb := tk_in (List.mem_append_right _ (List.mem_of_getElem? (i := 495) (by decide +kernel))) rfl
set_option maxRecDepth 20000 in
theorem t_496 : (Jvm.Cond.code ({ cls := "SketchCache$Climb", name := "growthAfter", desc := "(Z)I" } : Jvm.MethodName) prog_3_method_5_code (2 : Nat) (Option.some Jvm.ClassFile.FieldType.int)) ∈ tk_tb := tk_in (List.mem_append_right _ (List.mem_of_getElem? (i := 496) (rfl))) rfl
set_option maxRecDepth 20000 in
theorem t_497 : (Jvm.Cond.methodLink "SketchCache$State" (80 : Nat) ({ cls := "SketchCache$Cache", name := "resize", desc := "(I)V" } : Jvm.MethodName)) ∈ tk_tb := tk_in (List.mem_append_right _ (List.mem_of_getElem? (i := 497) (by decide +kernel))) rfl
set_option maxRecDepth 20000 in
theorem t_498 : (Jvm.Cond.instanceMethod ({ cls := "SketchCache$Cache", name := "resize", desc := "(I)V" } : Jvm.MethodName)) ∈ tk_tb := tk_in (List.mem_append_right _ (List.mem_of_getElem? (i := 498) (by decide +kernel))) rfl
set_option maxRecDepth 20000 in
theorem t_499 : (Jvm.Cond.selects "SketchCache$Cache" ({ cls := "SketchCache$Cache", name := "resize", desc := "(I)V" } : Jvm.MethodName) ({ cls := "SketchCache$Cache", name := "resize", desc := "(I)V" } : Jvm.MethodName)) ∈ tk_tb := tk_in (List.mem_append_right _ (List.mem_of_getElem? (i := 499) (by decide +kernel))) rfl
set_option maxRecDepth 20000 in
theorem t_500 : (Jvm.Cond.code ({ cls := "SketchCache$Cache", name := "resize", desc := "(I)V" } : Jvm.MethodName) prog_2_method_16_code (3 : Nat) (Option.none : Option Jvm.ClassFile.FieldType)) ∈ tk_tb := tk_in (List.mem_append_right _ (List.mem_of_getElem? (i := 500) (rfl))) rfl
set_option maxRecDepth 20000 in
theorem t_501 : (Jvm.Cond.methodLink "SketchCache$Cache" (108 : Nat) ({ cls := "java/lang/Math", name := "max", desc := "(II)I" } : Jvm.MethodName)) ∈ tk_tb := tk_in (List.mem_append_right _ (List.mem_of_getElem? (i := 501) (by decide +kernel))) rfl
set_option maxRecDepth 20000 in
theorem t_502 : (Jvm.Cond.methodLink "SketchCacheLaw" (44 : Nat) ({ cls := "SketchCache", name := "run", desc := "(III)I" } : Jvm.MethodName)) ∈ tk_tb := tk_in (List.mem_append_right _ (List.mem_of_getElem? (i := 502) (by decide +kernel))) rfl
set_option maxRecDepth 20000 in
theorem t_503 : (Jvm.Cond.instanceMethod ({ cls := "SketchCache", name := "run", desc := "(III)I" } : Jvm.MethodName)) ∈ tk_tb := tk_in (List.mem_append_right _ (List.mem_of_getElem? (i := 503) (by decide +kernel))) rfl
set_option maxRecDepth 20000 in
theorem t_504 : (Jvm.Cond.selects "SketchCache" ({ cls := "SketchCache", name := "run", desc := "(III)I" } : Jvm.MethodName) ({ cls := "SketchCache", name := "run", desc := "(III)I" } : Jvm.MethodName)) ∈ tk_tb := tk_in (List.mem_append_right _ (List.mem_of_getElem? (i := 504) (by decide +kernel))) rfl
set_option maxRecDepth 20000 in
theorem t_505 : (Jvm.Cond.code ({ cls := "SketchCache", name := "run", desc := "(III)I" } : Jvm.MethodName) prog_1_method_7_code (7 : Nat) (Option.some Jvm.ClassFile.FieldType.int)) ∈ tk_tb := tk_in (List.mem_append_right _ (List.mem_of_getElem? (i := 505) (rfl))) rfl
set_option maxRecDepth 20000 in
theorem t_506 : (Jvm.Cond.methodLink "SketchCacheLaw" (48 : Nat) ({ cls := "SketchCache", name := "add", desc := "(I)I" } : Jvm.MethodName)) ∈ tk_tb := tk_in (List.mem_append_right _ (List.mem_of_getElem? (i := 506) (by decide +kernel))) rfl
set_option maxRecDepth 20000 in
theorem t_507 : (Jvm.Cond.instanceMethod ({ cls := "SketchCache", name := "add", desc := "(I)I" } : Jvm.MethodName)) ∈ tk_tb := tk_in (List.mem_append_right _ (List.mem_of_getElem? (i := 507) (by decide +kernel))) rfl
set_option maxRecDepth 20000 in
theorem t_508 : (Jvm.Cond.selects "SketchCache" ({ cls := "SketchCache", name := "add", desc := "(I)I" } : Jvm.MethodName) ({ cls := "SketchCache", name := "add", desc := "(I)I" } : Jvm.MethodName)) ∈ tk_tb := tk_in (List.mem_append_right _ (List.mem_of_getElem? (i := 508) (by decide +kernel))) rfl
set_option maxRecDepth 20000 in
theorem t_509 : (Jvm.Cond.code ({ cls := "SketchCache", name := "add", desc := "(I)I" } : Jvm.MethodName) prog_1_method_8_code (2 : Nat) (Option.some Jvm.ClassFile.FieldType.int)) ∈ tk_tb := tk_in (List.mem_append_right _ (List.mem_of_getElem? (i := 509) (rfl))) rfl
set_option maxRecDepth 20000 in
theorem t_510 : (Jvm.Cond.methodLink "SketchCache" (97 : Nat) ({ cls := "SketchCache$Sketch", name := "put", desc := "(I)V" } : Jvm.MethodName)) ∈ tk_tb := tk_in (List.mem_append_right _ (List.mem_of_getElem? (i := 510) (by decide +kernel))) rfl
set_option maxRecDepth 20000 in
theorem t_511 : (Jvm.Cond.methodLink "SketchCache" (101 : Nat) ({ cls := "SketchCache$Sketch", name := "guess", desc := "(I)I" } : Jvm.MethodName)) ∈ tk_tb := tk_in (List.mem_append_right _ (List.mem_of_getElem? (i := 511) (by decide +kernel))) rfl
set_option maxRecDepth 20000 in
theorem t_512 : (Jvm.Cond.methodLink "SketchCacheLaw" (52 : Nat) ({ cls := "SketchCache", name := "estimate", desc := "(I)I" } : Jvm.MethodName)) ∈ tk_tb := tk_in (List.mem_append_right _ (List.mem_of_getElem? (i := 512) (by decide +kernel))) rfl
set_option maxRecDepth 20000 in
theorem t_513 : (Jvm.Cond.instanceMethod ({ cls := "SketchCache", name := "estimate", desc := "(I)I" } : Jvm.MethodName)) ∈ tk_tb := tk_in (List.mem_append_right _ (List.mem_of_getElem? (i := 513) (by decide +kernel))) rfl
set_option maxRecDepth 20000 in
theorem t_514 : (Jvm.Cond.selects "SketchCache" ({ cls := "SketchCache", name := "estimate", desc := "(I)I" } : Jvm.MethodName) ({ cls := "SketchCache", name := "estimate", desc := "(I)I" } : Jvm.MethodName)) ∈ tk_tb := tk_in (List.mem_append_right _ (List.mem_of_getElem? (i := 514) (by decide +kernel))) rfl
set_option maxRecDepth 20000 in
theorem t_515 : (Jvm.Cond.code ({ cls := "SketchCache", name := "estimate", desc := "(I)I" } : Jvm.MethodName) prog_1_method_9_code (2 : Nat) (Option.some Jvm.ClassFile.FieldType.int)) ∈ tk_tb := tk_in (List.mem_append_right _ (List.mem_of_getElem? (i := 515) (rfl))) rfl
set_option maxRecDepth 20000 in
theorem t_516 : (Jvm.Cond.methodLink "SketchCacheLaw" (56 : Nat) ({ cls := "SketchCache", name := "counter", desc := "(II)I" } : Jvm.MethodName)) ∈ tk_tb := tk_in (List.mem_append_right _ (List.mem_of_getElem? (i := 516) (by decide +kernel))) rfl
set_option maxRecDepth 20000 in
theorem t_517 : (Jvm.Cond.instanceMethod ({ cls := "SketchCache", name := "counter", desc := "(II)I" } : Jvm.MethodName)) ∈ tk_tb := tk_in (List.mem_append_right _ (List.mem_of_getElem? (i := 517) (by decide +kernel))) rfl
set_option maxRecDepth 20000 in
theorem t_518 : (Jvm.Cond.selects "SketchCache" ({ cls := "SketchCache", name := "counter", desc := "(II)I" } : Jvm.MethodName) ({ cls := "SketchCache", name := "counter", desc := "(II)I" } : Jvm.MethodName)) ∈ tk_tb := tk_in (List.mem_append_right _ (List.mem_of_getElem? (i := 518) (by decide +kernel))) rfl
set_option maxRecDepth 20000 in
theorem t_519 : (Jvm.Cond.code ({ cls := "SketchCache", name := "counter", desc := "(II)I" } : Jvm.MethodName) prog_1_method_10_code (3 : Nat) (Option.some Jvm.ClassFile.FieldType.int)) ∈ tk_tb := tk_in (List.mem_append_right _ (List.mem_of_getElem? (i := 519) (rfl))) rfl
set_option maxRecDepth 20000 in
theorem t_520 : (Jvm.Cond.methodLink "SketchCacheLaw" (60 : Nat) ({ cls := "SketchCache", name := "bit", desc := "(I)I" } : Jvm.MethodName)) ∈ tk_tb := tk_in (List.mem_append_right _ (List.mem_of_getElem? (i := 520) (by decide +kernel))) rfl
set_option maxRecDepth 20000 in
theorem t_521 : (Jvm.Cond.instanceMethod ({ cls := "SketchCache", name := "bit", desc := "(I)I" } : Jvm.MethodName)) ∈ tk_tb := tk_in (List.mem_append_right _ (List.mem_of_getElem? (i := 521) (by decide +kernel))) rfl
set_option maxRecDepth 20000 in
theorem t_522 : (Jvm.Cond.selects "SketchCache" ({ cls := "SketchCache", name := "bit", desc := "(I)I" } : Jvm.MethodName) ({ cls := "SketchCache", name := "bit", desc := "(I)I" } : Jvm.MethodName)) ∈ tk_tb := tk_in (List.mem_append_right _ (List.mem_of_getElem? (i := 522) (by decide +kernel))) rfl
set_option maxRecDepth 20000 in
theorem t_523 : (Jvm.Cond.code ({ cls := "SketchCache", name := "bit", desc := "(I)I" } : Jvm.MethodName) prog_1_method_11_code (2 : Nat) (Option.some Jvm.ClassFile.FieldType.int)) ∈ tk_tb := tk_in (List.mem_append_right _ (List.mem_of_getElem? (i := 523) (rfl))) rfl
set_option maxRecDepth 20000 in
theorem t_524 : (Jvm.Cond.methodLink "SketchCacheLaw" (64 : Nat) ({ cls := "SketchCache", name := "remove", desc := "(I)I" } : Jvm.MethodName)) ∈ tk_tb := tk_in (List.mem_append_right _ (List.mem_of_getElem? (i := 524) (by decide +kernel))) rfl
set_option maxRecDepth 20000 in
theorem t_525 : (Jvm.Cond.instanceMethod ({ cls := "SketchCache", name := "remove", desc := "(I)I" } : Jvm.MethodName)) ∈ tk_tb := tk_in (List.mem_append_right _ (List.mem_of_getElem? (i := 525) (by decide +kernel))) rfl
set_option maxRecDepth 20000 in
theorem t_526 : (Jvm.Cond.selects "SketchCache" ({ cls := "SketchCache", name := "remove", desc := "(I)I" } : Jvm.MethodName) ({ cls := "SketchCache", name := "remove", desc := "(I)I" } : Jvm.MethodName)) ∈ tk_tb := tk_in (List.mem_append_right _ (List.mem_of_getElem? (i := 526) (by decide +kernel))) rfl
set_option maxRecDepth 20000 in
theorem t_527 : (Jvm.Cond.code ({ cls := "SketchCache", name := "remove", desc := "(I)I" } : Jvm.MethodName) prog_1_method_12_code (3 : Nat) (Option.some Jvm.ClassFile.FieldType.int)) ∈ tk_tb := tk_in (List.mem_append_right _ (List.mem_of_getElem? (i := 527) (rfl))) rfl
set_option maxRecDepth 20000 in
theorem t_528 : (Jvm.Cond.methodLink "SketchCache" (111 : Nat) ({ cls := "SketchCache$Rows", name := "takeOut", desc := "(I)V" } : Jvm.MethodName)) ∈ tk_tb := tk_in (List.mem_append_right _ (List.mem_of_getElem? (i := 528) (by decide +kernel))) rfl
set_option maxRecDepth 20000 in
theorem t_529 : (Jvm.Cond.methodLink "SketchCacheLaw" (68 : Nat) ({ cls := "SketchCache", name := "where", desc := "(I)I" } : Jvm.MethodName)) ∈ tk_tb := tk_in (List.mem_append_right _ (List.mem_of_getElem? (i := 529) (by decide +kernel))) rfl
set_option maxRecDepth 20000 in
theorem t_530 : (Jvm.Cond.instanceMethod ({ cls := "SketchCache", name := "where", desc := "(I)I" } : Jvm.MethodName)) ∈ tk_tb := tk_in (List.mem_append_right _ (List.mem_of_getElem? (i := 530) (by decide +kernel))) rfl
set_option maxRecDepth 20000 in
theorem t_531 : (Jvm.Cond.selects "SketchCache" ({ cls := "SketchCache", name := "where", desc := "(I)I" } : Jvm.MethodName) ({ cls := "SketchCache", name := "where", desc := "(I)I" } : Jvm.MethodName)) ∈ tk_tb := tk_in (List.mem_append_right _ (List.mem_of_getElem? (i := 531) (by decide +kernel))) rfl
set_option maxRecDepth 20000 in
theorem t_532 : (Jvm.Cond.code ({ cls := "SketchCache", name := "where", desc := "(I)I" } : Jvm.MethodName) prog_1_method_13_code (2 : Nat) (Option.some Jvm.ClassFile.FieldType.int)) ∈ tk_tb := tk_in (List.mem_append_right _ (List.mem_of_getElem? (i := 532) (rfl))) rfl
set_option maxRecDepth 20000 in
theorem t_533 : (Jvm.Cond.methodLink "SketchCacheLaw" (72 : Nat) ({ cls := "SketchCache", name := "key", desc := "(II)I" } : Jvm.MethodName)) ∈ tk_tb := tk_in (List.mem_append_right _ (List.mem_of_getElem? (i := 533) (by decide +kernel))) rfl
set_option maxRecDepth 20000 in
theorem t_534 : (Jvm.Cond.instanceMethod ({ cls := "SketchCache", name := "key", desc := "(II)I" } : Jvm.MethodName)) ∈ tk_tb := tk_in (List.mem_append_right _ (List.mem_of_getElem? (i := 534) (by decide +kernel))) rfl
set_option maxRecDepth 20000 in
theorem t_535 : (Jvm.Cond.selects "SketchCache" ({ cls := "SketchCache", name := "key", desc := "(II)I" } : Jvm.MethodName) ({ cls := "SketchCache", name := "key", desc := "(II)I" } : Jvm.MethodName)) ∈ tk_tb := tk_in (List.mem_append_right _ (List.mem_of_getElem? (i := 535) (by decide +kernel))) rfl
set_option maxRecDepth 20000 in
theorem t_536 : (Jvm.Cond.code ({ cls := "SketchCache", name := "key", desc := "(II)I" } : Jvm.MethodName) prog_1_method_14_code (3 : Nat) (Option.some Jvm.ClassFile.FieldType.int)) ∈ tk_tb := tk_in (List.mem_append_right _ (List.mem_of_getElem? (i := 536) (rfl))) rfl
set_option maxRecDepth 20000 in
theorem t_537 : (Jvm.Cond.methodLink "SketchCache" (114 : Nat) ({ cls := "SketchCache$Rows", name := "keyAt", desc := "(II)I" } : Jvm.MethodName)) ∈ tk_tb := tk_in (List.mem_append_right _ (List.mem_of_getElem? (i := 537) (by decide +kernel))) rfl
set_option maxRecDepth 20000 in
theorem t_538 : (Jvm.Cond.methodLink "SketchCacheLaw" (76 : Nat) ({ cls := "SketchCache", name := "about", desc := "(I)I" } : Jvm.MethodName)) ∈ tk_tb := tk_in (List.mem_append_right _ (List.mem_of_getElem? (i := 538) (by decide +kernel))) rfl
set_option maxRecDepth 20000 in
theorem t_539 : (Jvm.Cond.instanceMethod ({ cls := "SketchCache", name := "about", desc := "(I)I" } : Jvm.MethodName)) ∈ tk_tb := tk_in (List.mem_append_right _ (List.mem_of_getElem? (i := 539) (by decide +kernel))) rfl
set_option maxRecDepth 20000 in
theorem t_540 : (Jvm.Cond.selects "SketchCache" ({ cls := "SketchCache", name := "about", desc := "(I)I" } : Jvm.MethodName) ({ cls := "SketchCache", name := "about", desc := "(I)I" } : Jvm.MethodName)) ∈ tk_tb := tk_in (List.mem_append_right _ (List.mem_of_getElem? (i := 540) (by decide +kernel))) rfl
set_option maxRecDepth 20000 in
theorem t_541 : (Jvm.Cond.code ({ cls := "SketchCache", name := "about", desc := "(I)I" } : Jvm.MethodName) prog_1_method_15_code (2 : Nat) (Option.some Jvm.ClassFile.FieldType.int)) ∈ tk_tb := tk_in (List.mem_append_right _ (List.mem_of_getElem? (i := 541) (rfl))) rfl
set_option maxRecDepth 20000 in
theorem t_542 : (Jvm.Cond.methodLink "SketchCache" (117 : Nat) ({ cls := "SketchCache$State", name := "tellAbout", desc := "(I)I" } : Jvm.MethodName)) ∈ tk_tb := tk_in (List.mem_append_right _ (List.mem_of_getElem? (i := 542) (by decide +kernel))) rfl
set_option maxRecDepth 20000 in
theorem t_543 : (Jvm.Cond.instanceMethod ({ cls := "SketchCache$State", name := "tellAbout", desc := "(I)I" } : Jvm.MethodName)) ∈ tk_tb := tk_in (List.mem_append_right _ (List.mem_of_getElem? (i := 543) (by decide +kernel))) rfl
set_option maxRecDepth 20000 in
theorem t_544 : (Jvm.Cond.selects "SketchCache$State" ({ cls := "SketchCache$State", name := "tellAbout", desc := "(I)I" } : Jvm.MethodName) ({ cls := "SketchCache$State", name := "tellAbout", desc := "(I)I" } : Jvm.MethodName)) ∈ tk_tb := tk_in (List.mem_append_right _ (List.mem_of_getElem? (i := 544) (by decide +kernel))) rfl
set_option maxRecDepth 20000 in
theorem t_545 : (Jvm.Cond.code ({ cls := "SketchCache$State", name := "tellAbout", desc := "(I)I" } : Jvm.MethodName) prog_10_method_4_code (2 : Nat) (Option.some Jvm.ClassFile.FieldType.int)) ∈ tk_tb := tk_in (List.mem_append_right _ (List.mem_of_getElem? (i := 545) (rfl))) rfl
set_option maxRecDepth 20000 in
theorem t_546 : (Jvm.Cond.methodLink "SketchCache$State" (102 : Nat) ({ cls := "SketchCache$Cache", name := "protectedLimit", desc := "()I" } : Jvm.MethodName)) ∈ tk_tb := tk_in (List.mem_append_right _ (List.mem_of_getElem? (i := 546) (by decide +kernel))) rfl
set_option maxRecDepth 20000 in
theorem t_547 : (Jvm.Cond.methodLink "SketchCache$State" (109 : Nat) ({ cls := "SketchCache$Cache", name := "keysThere", desc := "()I" } : Jvm.MethodName)) ∈ tk_tb := tk_in (List.mem_append_right _ (List.mem_of_getElem? (i := 547) (by decide +kernel))) rfl
set_option maxRecDepth 20000 in
theorem t_548 : (Jvm.Cond.instanceMethod ({ cls := "SketchCache$Cache", name := "keysThere", desc := "()I" } : Jvm.MethodName)) ∈ tk_tb := tk_in (List.mem_append_right _ (List.mem_of_getElem? (i := 548) (by decide +kernel))) rfl
set_option maxRecDepth 20000 in
theorem t_549 : (Jvm.Cond.selects "SketchCache$Cache" ({ cls := "SketchCache$Cache", name := "keysThere", desc := "()I" } : Jvm.MethodName) ({ cls := "SketchCache$Cache", name := "keysThere", desc := "()I" } : Jvm.MethodName)) ∈ tk_tb := tk_in (List.mem_append_right _ (List.mem_of_getElem? (i := 549) (by decide +kernel))) rfl
set_option maxRecDepth 20000 in
theorem t_550 : (Jvm.Cond.code ({ cls := "SketchCache$Cache", name := "keysThere", desc := "()I" } : Jvm.MethodName) prog_2_method_4_code (1 : Nat) (Option.some Jvm.ClassFile.FieldType.int)) ∈ tk_tb := tk_in (List.mem_append_right _ (List.mem_of_getElem? (i := 550) (rfl))) rfl
set_option maxRecDepth 20000 in
theorem t_551 : (Jvm.Cond.methodLink "SketchCacheLaw" (80 : Nat) ({ cls := "SketchCache", name := "trace", desc := "(I)I" } : Jvm.MethodName)) ∈ tk_tb := tk_in (List.mem_append_right _ (List.mem_of_getElem? (i := 551) (by decide +kernel))) rfl
set_option maxRecDepth 20000 in
theorem t_552 : (Jvm.Cond.instanceMethod ({ cls := "SketchCache", name := "trace", desc := "(I)I" } : Jvm.MethodName)) ∈ tk_tb := tk_in (List.mem_append_right _ (List.mem_of_getElem? (i := 552) (by decide +kernel))) rfl
set_option maxRecDepth 20000 in
theorem t_553 : (Jvm.Cond.selects "SketchCache" ({ cls := "SketchCache", name := "trace", desc := "(I)I" } : Jvm.MethodName) ({ cls := "SketchCache", name := "trace", desc := "(I)I" } : Jvm.MethodName)) ∈ tk_tb := tk_in (List.mem_append_right _ (List.mem_of_getElem? (i := 553) (by decide +kernel))) rfl
set_option maxRecDepth 20000 in
theorem t_554 : (Jvm.Cond.code ({ cls := "SketchCache", name := "trace", desc := "(I)I" } : Jvm.MethodName) prog_1_method_16_code (2 : Nat) (Option.some Jvm.ClassFile.FieldType.int)) ∈ tk_tb := tk_in (List.mem_append_right _ (List.mem_of_getElem? (i := 554) (rfl))) rfl
set_option maxRecDepth 20000 in
theorem t_555 : (Jvm.Cond.methodLink "SketchCache" (124 : Nat) ({ cls := "SketchCache$Trace", name := "keyAt", desc := "(I)I" } : Jvm.MethodName)) ∈ tk_tb := tk_in (List.mem_append_right _ (List.mem_of_getElem? (i := 555) (by decide +kernel))) rfl
set_option maxRecDepth 20000 in
theorem t_556 : (Jvm.Cond.instanceMethod ({ cls := "SketchCache$Trace", name := "keyAt", desc := "(I)I" } : Jvm.MethodName)) ∈ tk_tb := tk_in (List.mem_append_right _ (List.mem_of_getElem? (i := 556) (by decide +kernel))) rfl
set_option maxRecDepth 20000 in
theorem t_557 : (Jvm.Cond.selects "SketchCache$Trace" ({ cls := "SketchCache$Trace", name := "keyAt", desc := "(I)I" } : Jvm.MethodName) ({ cls := "SketchCache$Trace", name := "keyAt", desc := "(I)I" } : Jvm.MethodName)) ∈ tk_tb := tk_in (List.mem_append_right _ (List.mem_of_getElem? (i := 557) (by decide +kernel))) rfl
set_option maxRecDepth 20000 in
theorem t_558 : (Jvm.Cond.code ({ cls := "SketchCache$Trace", name := "keyAt", desc := "(I)I" } : Jvm.MethodName) prog_11_method_3_code (2 : Nat) (Option.some Jvm.ClassFile.FieldType.int)) ∈ tk_tb := tk_in (List.mem_append_right _ (List.mem_of_getElem? (i := 558) (rfl))) rfl
set_option maxRecDepth 20000 in
theorem t_559 : (Jvm.Cond.methodLink "SketchCacheLaw" (84 : Nat) ({ cls := "SketchCache", name := "replay", desc := "(IIII)I" } : Jvm.MethodName)) ∈ tk_tb := tk_in (List.mem_append_right _ (List.mem_of_getElem? (i := 559) (by decide +kernel))) rfl
set_option maxRecDepth 20000 in
theorem t_560 : (Jvm.Cond.instanceMethod ({ cls := "SketchCache", name := "replay", desc := "(IIII)I" } : Jvm.MethodName)) ∈ tk_tb := tk_in (List.mem_append_right _ (List.mem_of_getElem? (i := 560) (by decide +kernel))) rfl
set_option maxRecDepth 20000 in
theorem t_561 : (Jvm.Cond.selects "SketchCache" ({ cls := "SketchCache", name := "replay", desc := "(IIII)I" } : Jvm.MethodName) ({ cls := "SketchCache", name := "replay", desc := "(IIII)I" } : Jvm.MethodName)) ∈ tk_tb := tk_in (List.mem_append_right _ (List.mem_of_getElem? (i := 561) (by decide +kernel))) rfl
set_option maxRecDepth 20000 in
theorem t_562 : (Jvm.Cond.code ({ cls := "SketchCache", name := "replay", desc := "(IIII)I" } : Jvm.MethodName) prog_1_method_17_code (5 : Nat) (Option.some Jvm.ClassFile.FieldType.int)) ∈ tk_tb := tk_in (List.mem_append_right _ (List.mem_of_getElem? (i := 562) (rfl))) rfl
set_option maxRecDepth 20000 in
theorem t_563 : (Jvm.Cond.methodLink "SketchCache" (131 : Nat) ({ cls := "SketchCache$Player", name := "play", desc := "(IILSketchCache$Trace;II)I" } : Jvm.MethodName)) ∈ tk_tb := tk_in (List.mem_append_right _ (List.mem_of_getElem? (i := 563) (by decide +kernel))) rfl
set_option maxRecDepth 20000 in
theorem t_564 : (Jvm.Cond.instanceMethod ({ cls := "SketchCache$Player", name := "play", desc := "(IILSketchCache$Trace;II)I" } : Jvm.MethodName)) ∈ tk_tb := tk_in (List.mem_append_right _ (List.mem_of_getElem? (i := 564) (by decide +kernel))) rfl
set_option maxRecDepth 20000 in
theorem t_565 : (Jvm.Cond.selects "SketchCache$Player" ({ cls := "SketchCache$Player", name := "play", desc := "(IILSketchCache$Trace;II)I" } : Jvm.MethodName) ({ cls := "SketchCache$Player", name := "play", desc := "(IILSketchCache$Trace;II)I" } : Jvm.MethodName)) ∈ tk_tb := tk_in (List.mem_append_right _ (List.mem_of_getElem? (i := 565) (by decide +kernel))) rfl
set_option maxRecDepth 20000 in
theorem t_566 : (Jvm.Cond.code ({ cls := "SketchCache$Player", name := "play", desc := "(IILSketchCache$Trace;II)I" } : Jvm.MethodName) prog_5_method_2_code (9 : Nat) (Option.some Jvm.ClassFile.FieldType.int)) ∈ tk_tb := tk_in (List.mem_append_right _ (List.mem_of_getElem? (i := 566) (rfl))) rfl
set_option maxRecDepth 20000 in
theorem t_567 : (Jvm.Cond.methodLink "SketchCache$Player" (39 : Nat) ({ cls := "SketchCache$Player", name := "lookAhead", desc := "(LSketchCache$Trace;II)V" } : Jvm.MethodName)) ∈ tk_tb := tk_in (List.mem_append_right _ (List.mem_of_getElem? (i := 567) (by decide +kernel))) rfl
set_option maxRecDepth 20000 in
theorem q_568 : (Jvm.Cond.privateMethod ({ cls := "SketchCache$Player", name := "lookAhead", desc := "(LSketchCache$Trace;II)V" } : Jvm.MethodName)) ∈ lw_tbl := List.mem_append_right _ (List.mem_of_getElem? (i := 568) (by decide +kernel))
set_option maxRecDepth 20000 in
theorem t_569 : (Jvm.Cond.instanceMethod ({ cls := "SketchCache$Player", name := "lookAhead", desc := "(LSketchCache$Trace;II)V" } : Jvm.MethodName)) ∈ tk_tb := tk_in (List.mem_append_right _ (List.mem_of_getElem? (i := 569) (by decide +kernel))) rfl
set_option maxRecDepth 20000 in
theorem t_570 : (Jvm.Cond.code ({ cls := "SketchCache$Player", name := "lookAhead", desc := "(LSketchCache$Trace;II)V" } : Jvm.MethodName) prog_5_method_3_code (6 : Nat) (Option.none : Option Jvm.ClassFile.FieldType)) ∈ tk_tb := tk_in (List.mem_append_right _ (List.mem_of_getElem? (i := 570) (rfl))) rfl
set_option maxRecDepth 20000 in
theorem t_571 : (Jvm.Cond.methodLink "SketchCache$Player" (60 : Nat) ({ cls := "java/util/Arrays", name := "fill", desc := "([II)V" } : Jvm.MethodName)) ∈ tk_tb := tk_in (List.mem_append_right _ (List.mem_of_getElem? (i := 571) (by decide +kernel))) rfl
set_option maxRecDepth 20000 in
theorem t_572 : (Jvm.Cond.methodLink "SketchCache$Player" (46 : Nat) ({ cls := "SketchCache$Trace", name := "keyAt", desc := "(I)I" } : Jvm.MethodName)) ∈ tk_tb := tk_in (List.mem_append_right _ (List.mem_of_getElem? (i := 572) (by decide +kernel))) rfl
set_option maxRecDepth 20000 in
theorem t_573 : (Jvm.Cond.methodLink "SketchCache$Player" (43 : Nat) ({ cls := "SketchCache$Policy", name := "begin", desc := "(I)V" } : Jvm.MethodName)) ∈ tk_tb := tk_in (List.mem_append_right _ (List.mem_of_getElem? (i := 573) (by decide +kernel))) rfl
set_option maxRecDepth 20000 in
theorem q_574 : (Jvm.Cond.declares ({ cls := "SketchCache$Policy", name := "begin", desc := "(I)V" } : Jvm.MethodName)) ∈ lw_tbl := List.mem_append_right _ (List.mem_of_getElem? (i := 574) (by decide +kernel))
set_option maxRecDepth 20000 in
theorem t_575 : (Jvm.Cond.sameMethod "SketchCache$Policy" "SketchCache$Policy" "begin" "(I)V") ∈ tk_tb := tk_in (List.mem_append_right _ (List.mem_of_getElem? (i := 575) (by decide +kernel))) rfl
set_option maxRecDepth 20000 in
theorem t_576 : (Jvm.Cond.selects "SketchCache$FourRows" ({ cls := "SketchCache$Policy", name := "begin", desc := "(I)V" } : Jvm.MethodName) ({ cls := "SketchCache$FourRows", name := "begin", desc := "(I)V" } : Jvm.MethodName)) ∈ tk_tb := tk_in (List.mem_append_right _ (List.mem_of_getElem? (i := 576) (by decide +kernel))) rfl
set_option maxRecDepth 20000 in
theorem t_577 : (Jvm.Cond.instanceMethod ({ cls := "SketchCache$FourRows", name := "begin", desc := "(I)V" } : Jvm.MethodName)) ∈ tk_tb := tk_in (List.mem_append_right _ (List.mem_of_getElem? (i := 577) (by decide +kernel))) rfl
set_option maxRecDepth 20000 in
theorem t_578 : (Jvm.Cond.code ({ cls := "SketchCache$FourRows", name := "begin", desc := "(I)V" } : Jvm.MethodName) prog_4_method_2_code (2 : Nat) (Option.none : Option Jvm.ClassFile.FieldType)) ∈ tk_tb := tk_in (List.mem_append_right _ (List.mem_of_getElem? (i := 578) (rfl))) rfl
set_option maxRecDepth 20000 in
theorem t_579 : (Jvm.Cond.methodLink "SketchCache$FourRows" (27 : Nat) ({ cls := "SketchCache$Rows", name := "clear", desc := "()V" } : Jvm.MethodName)) ∈ tk_tb := tk_in (List.mem_append_right _ (List.mem_of_getElem? (i := 579) (by decide +kernel))) rfl
set_option maxRecDepth 20000 in
theorem t_580 : (Jvm.Cond.instanceMethod ({ cls := "SketchCache$Rows", name := "clear", desc := "()V" } : Jvm.MethodName)) ∈ tk_tb := tk_in (List.mem_append_right _ (List.mem_of_getElem? (i := 580) (by decide +kernel))) rfl
set_option maxRecDepth 20000 in
theorem t_581 : (Jvm.Cond.selects "SketchCache$Rows" ({ cls := "SketchCache$Rows", name := "clear", desc := "()V" } : Jvm.MethodName) ({ cls := "SketchCache$Rows", name := "clear", desc := "()V" } : Jvm.MethodName)) ∈ tk_tb := tk_in (List.mem_append_right _ (List.mem_of_getElem? (i := 581) (by decide +kernel))) rfl
set_option maxRecDepth 20000 in
theorem t_582 : (Jvm.Cond.code ({ cls := "SketchCache$Rows", name := "clear", desc := "()V" } : Jvm.MethodName) prog_7_method_2_code (1 : Nat) (Option.none : Option Jvm.ClassFile.FieldType)) ∈ tk_tb := tk_in (List.mem_append_right _ (List.mem_of_getElem? (i := 582) (rfl))) rfl
set_option maxRecDepth 20000 in
theorem t_583 : (Jvm.Cond.selects "SketchCache$Seats" ({ cls := "SketchCache$Policy", name := "begin", desc := "(I)V" } : Jvm.MethodName) ({ cls := "SketchCache$Seats", name := "begin", desc := "(I)V" } : Jvm.MethodName)) ∈ tk_tb := tk_in (List.mem_append_right _ (List.mem_of_getElem? (i := 583) (by decide +kernel))) rfl
set_option maxRecDepth 20000 in
theorem t_584 : (Jvm.Cond.instanceMethod ({ cls := "SketchCache$Seats", name := "begin", desc := "(I)V" } : Jvm.MethodName)) ∈ tk_tb := tk_in (List.mem_append_right _ (List.mem_of_getElem? (i := 584) (by decide +kernel))) rfl
set_option maxRecDepth 20000 in
theorem t_585 : (Jvm.Cond.code ({ cls := "SketchCache$Seats", name := "begin", desc := "(I)V" } : Jvm.MethodName) prog_8_method_2_code (2 : Nat) (Option.none : Option Jvm.ClassFile.FieldType)) ∈ tk_tb := tk_in (List.mem_append_right _ (List.mem_of_getElem? (i := 585) (rfl))) rfl
set_option maxRecDepth 20000 in
theorem t_586 : (Jvm.Cond.methodLink "SketchCache$Seats" (43 : Nat) ({ cls := "java/lang/Math", name := "min", desc := "(II)I" } : Jvm.MethodName)) ∈ tk_tb := tk_in (List.mem_append_right _ (List.mem_of_getElem? (i := 586) (by decide +kernel))) rfl
set_option maxRecDepth 20000 in
theorem t_587 : (Jvm.Cond.methodLink "SketchCache$Seats" (49 : Nat) ({ cls := "java/lang/Math", name := "max", desc := "(II)I" } : Jvm.MethodName)) ∈ tk_tb := tk_in (List.mem_append_right _ (List.mem_of_getElem? (i := 587) (by decide +kernel))) rfl
set_option maxRecDepth 20000 in
theorem t_588 : (Jvm.Cond.methodLink "SketchCache$Player" (52 : Nat) ({ cls := "SketchCache$Policy", name := "asks", desc := "(III)Z" } : Jvm.MethodName)) ∈ tk_tb := tk_in (List.mem_append_right _ (List.mem_of_getElem? (i := 588) (by decide +kernel))) rfl
set_option maxRecDepth 20000 in
theorem q_589 : (Jvm.Cond.declares ({ cls := "SketchCache$Policy", name := "asks", desc := "(III)Z" } : Jvm.MethodName)) ∈ lw_tbl := List.mem_append_right _ (List.mem_of_getElem? (i := 589) (by decide +kernel))
set_option maxRecDepth 20000 in
theorem t_590 : (Jvm.Cond.sameMethod "SketchCache$Policy" "SketchCache$Policy" "asks" "(III)Z") ∈ tk_tb := tk_in (List.mem_append_right _ (List.mem_of_getElem? (i := 590) (by decide +kernel))) rfl
set_option maxRecDepth 20000 in
theorem t_591 : (Jvm.Cond.selects "SketchCache$FourRows" ({ cls := "SketchCache$Policy", name := "asks", desc := "(III)Z" } : Jvm.MethodName) ({ cls := "SketchCache$FourRows", name := "asks", desc := "(III)Z" } : Jvm.MethodName)) ∈ tk_tb := tk_in (List.mem_append_right _ (List.mem_of_getElem? (i := 591) (by decide +kernel))) rfl
set_option maxRecDepth 20000 in
theorem t_592 : (Jvm.Cond.instanceMethod ({ cls := "SketchCache$FourRows", name := "asks", desc := "(III)Z" } : Jvm.MethodName)) ∈ tk_tb := tk_in (List.mem_append_right _ (List.mem_of_getElem? (i := 592) (by decide +kernel))) rfl
set_option maxRecDepth 20000 in
theorem t_593 : (Jvm.Cond.code ({ cls := "SketchCache$FourRows", name := "asks", desc := "(III)Z" } : Jvm.MethodName) prog_4_method_3_code (5 : Nat) (Option.some Jvm.ClassFile.FieldType.boolean)) ∈ tk_tb := tk_in (List.mem_append_right _ (List.mem_of_getElem? (i := 593) (rfl))) rfl
set_option maxRecDepth 20000 in
theorem t_594 : (Jvm.Cond.methodLink "SketchCache$FourRows" (34 : Nat) ({ cls := "SketchCache$FourRows", name := "makeRoomForNew", desc := "()V" } : Jvm.MethodName)) ∈ tk_tb := tk_in (List.mem_append_right _ (List.mem_of_getElem? (i := 594) (by decide +kernel))) rfl
set_option maxRecDepth 20000 in
theorem q_595 : (Jvm.Cond.privateMethod ({ cls := "SketchCache$FourRows", name := "makeRoomForNew", desc := "()V" } : Jvm.MethodName)) ∈ lw_tbl := List.mem_append_right _ (List.mem_of_getElem? (i := 595) (by decide +kernel))
set_option maxRecDepth 20000 in
theorem t_596 : (Jvm.Cond.instanceMethod ({ cls := "SketchCache$FourRows", name := "makeRoomForNew", desc := "()V" } : Jvm.MethodName)) ∈ tk_tb := tk_in (List.mem_append_right _ (List.mem_of_getElem? (i := 596) (by decide +kernel))) rfl
set_option maxRecDepth 20000 in
theorem t_597 : (Jvm.Cond.code ({ cls := "SketchCache$FourRows", name := "makeRoomForNew", desc := "()V" } : Jvm.MethodName) prog_4_method_6_code (4 : Nat) (Option.none : Option Jvm.ClassFile.FieldType)) ∈ tk_tb := tk_in (List.mem_append_right _ (List.mem_of_getElem? (i := 597) (rfl))) rfl
set_option maxRecDepth 20000 in
theorem t_598 : (Jvm.Cond.methodLink "SketchCache$FourRows" (63 : Nat) ({ cls := "SketchCache$Rows", name := "dropFirst", desc := "(I)V" } : Jvm.MethodName)) ∈ tk_tb := tk_in (List.mem_append_right _ (List.mem_of_getElem? (i := 598) (by decide +kernel))) rfl
set_option maxRecDepth 20000 in
theorem t_599 : (Jvm.Cond.instanceMethod ({ cls := "SketchCache$Rows", name := "dropFirst", desc := "(I)V" } : Jvm.MethodName)) ∈ tk_tb := tk_in (List.mem_append_right _ (List.mem_of_getElem? (i := 599) (by decide +kernel))) rfl
set_option maxRecDepth 20000 in
theorem t_600 : (Jvm.Cond.selects "SketchCache$Rows" ({ cls := "SketchCache$Rows", name := "dropFirst", desc := "(I)V" } : Jvm.MethodName) ({ cls := "SketchCache$Rows", name := "dropFirst", desc := "(I)V" } : Jvm.MethodName)) ∈ tk_tb := tk_in (List.mem_append_right _ (List.mem_of_getElem? (i := 600) (by decide +kernel))) rfl
set_option maxRecDepth 20000 in
theorem t_601 : (Jvm.Cond.code ({ cls := "SketchCache$Rows", name := "dropFirst", desc := "(I)V" } : Jvm.MethodName) prog_7_method_8_code (3 : Nat) (Option.none : Option Jvm.ClassFile.FieldType)) ∈ tk_tb := tk_in (List.mem_append_right _ (List.mem_of_getElem? (i := 601) (rfl))) rfl
set_option maxRecDepth 20000 in
theorem t_602 : (Jvm.Cond.methodLink "SketchCache$Rows" (49 : Nat) ({ cls := "SketchCache$Rows", name := "keyAt", desc := "(II)I" } : Jvm.MethodName)) ∈ tk_tb := tk_in (List.mem_append_right _ (List.mem_of_getElem? (i := 602) (by decide +kernel))) rfl
set_option maxRecDepth 20000 in
theorem t_603 : (Jvm.Cond.methodLink "SketchCache$FourRows" (53 : Nat) ({ cls := "SketchCache$FourRows", name := "makeRoom", desc := "(Z)V" } : Jvm.MethodName)) ∈ tk_tb := tk_in (List.mem_append_right _ (List.mem_of_getElem? (i := 603) (by decide +kernel))) rfl
set_option maxRecDepth 20000 in
theorem q_604 : (Jvm.Cond.privateMethod ({ cls := "SketchCache$FourRows", name := "makeRoom", desc := "(Z)V" } : Jvm.MethodName)) ∈ lw_tbl := List.mem_append_right _ (List.mem_of_getElem? (i := 604) (by decide +kernel))
set_option maxRecDepth 20000 in
theorem t_605 : (Jvm.Cond.instanceMethod ({ cls := "SketchCache$FourRows", name := "makeRoom", desc := "(Z)V" } : Jvm.MethodName)) ∈ tk_tb := tk_in (List.mem_append_right _ (List.mem_of_getElem? (i := 605) (by decide +kernel))) rfl
set_option maxRecDepth 20000 in
theorem t_606 : (Jvm.Cond.code ({ cls := "SketchCache$FourRows", name := "makeRoom", desc := "(Z)V" } : Jvm.MethodName) prog_4_method_7_code (4 : Nat) (Option.none : Option Jvm.ClassFile.FieldType)) ∈ tk_tb := tk_in (List.mem_append_right _ (List.mem_of_getElem? (i := 606) (rfl))) rfl
set_option maxRecDepth 20000 in
theorem t_607 : (Jvm.Cond.methodLink "SketchCache$FourRows" (66 : Nat) ({ cls := "SketchCache$Rows", name := "moveFirst", desc := "(II)V" } : Jvm.MethodName)) ∈ tk_tb := tk_in (List.mem_append_right _ (List.mem_of_getElem? (i := 607) (by decide +kernel))) rfl
set_option maxRecDepth 20000 in
theorem t_608 : (Jvm.Cond.instanceMethod ({ cls := "SketchCache$Rows", name := "moveFirst", desc := "(II)V" } : Jvm.MethodName)) ∈ tk_tb := tk_in (List.mem_append_right _ (List.mem_of_getElem? (i := 608) (by decide +kernel))) rfl
set_option maxRecDepth 20000 in
theorem t_609 : (Jvm.Cond.selects "SketchCache$Rows" ({ cls := "SketchCache$Rows", name := "moveFirst", desc := "(II)V" } : Jvm.MethodName) ({ cls := "SketchCache$Rows", name := "moveFirst", desc := "(II)V" } : Jvm.MethodName)) ∈ tk_tb := tk_in (List.mem_append_right _ (List.mem_of_getElem? (i := 609) (by decide +kernel))) rfl
set_option maxRecDepth 20000 in
theorem t_610 : (Jvm.Cond.code ({ cls := "SketchCache$Rows", name := "moveFirst", desc := "(II)V" } : Jvm.MethodName) prog_7_method_7_code (4 : Nat) (Option.none : Option Jvm.ClassFile.FieldType)) ∈ tk_tb := tk_in (List.mem_append_right _ (List.mem_of_getElem? (i := 610) (rfl))) rfl
set_option maxRecDepth 20000 in
theorem t_611 : (Jvm.Cond.methodLink "SketchCache$FourRows" (37 : Nat) ({ cls := "SketchCache$Rows", name := "append", desc := "(II)V" } : Jvm.MethodName)) ∈ tk_tb := tk_in (List.mem_append_right _ (List.mem_of_getElem? (i := 611) (by decide +kernel))) rfl
set_option maxRecDepth 20000 in
theorem t_612 : (Jvm.Cond.methodLink "SketchCache$FourRows" (44 : Nat) ({ cls := "SketchCache$FourRows", name := "ratio", desc := "(II)I" } : Jvm.MethodName)) ∈ tk_tb := tk_in (List.mem_append_right _ (List.mem_of_getElem? (i := 612) (by decide +kernel))) rfl
set_option maxRecDepth 20000 in
theorem t_613 : (Jvm.Cond.static ({ cls := "SketchCache$FourRows", name := "ratio", desc := "(II)I" } : Jvm.MethodName)) ∈ tk_tb := tk_in (List.mem_append_right _ (List.mem_of_getElem? (i := 613) (by decide +kernel))) rfl
set_option maxRecDepth 20000 in
theorem t_614 : (Jvm.Cond.code ({ cls := "SketchCache$FourRows", name := "ratio", desc := "(II)I" } : Jvm.MethodName) prog_4_method_5_code (2 : Nat) (Option.some Jvm.ClassFile.FieldType.int)) ∈ tk_tb := tk_in (List.mem_append_right _ (List.mem_of_getElem? (i := 614) (rfl))) rfl
set_option maxRecDepth 20000 in
theorem t_615 : (Jvm.Cond.methodLink "SketchCache$FourRows" (57 : Nat) ({ cls := "java/lang/Math", name := "max", desc := "(II)I" } : Jvm.MethodName)) ∈ tk_tb := tk_in (List.mem_append_right _ (List.mem_of_getElem? (i := 615) (by decide +kernel))) rfl
set_option maxRecDepth 20000 in
theorem t_616 : (Jvm.Cond.methodLink "SketchCache$FourRows" (48 : Nat) ({ cls := "java/lang/Math", name := "min", desc := "(II)I" } : Jvm.MethodName)) ∈ tk_tb := tk_in (List.mem_append_right _ (List.mem_of_getElem? (i := 616) (by decide +kernel))) rfl
set_option maxRecDepth 20000 in
theorem t_617 : (Jvm.Cond.methodLink "SketchCache$FourRows" (60 : Nat) ({ cls := "SketchCache$Rows", name := "moveToLast", desc := "(II)V" } : Jvm.MethodName)) ∈ tk_tb := tk_in (List.mem_append_right _ (List.mem_of_getElem? (i := 617) (by decide +kernel))) rfl
set_option maxRecDepth 20000 in
theorem t_618 : (Jvm.Cond.selects "SketchCache$Seats" ({ cls := "SketchCache$Policy", name := "asks", desc := "(III)Z" } : Jvm.MethodName) ({ cls := "SketchCache$Seats", name := "asks", desc := "(III)Z" } : Jvm.MethodName)) ∈ tk_tb := tk_in (List.mem_append_right _ (List.mem_of_getElem? (i := 618) (by decide +kernel))) rfl
set_option maxRecDepth 20000 in
theorem t_619 : (Jvm.Cond.instanceMethod ({ cls := "SketchCache$Seats", name := "asks", desc := "(III)Z" } : Jvm.MethodName)) ∈ tk_tb := tk_in (List.mem_append_right _ (List.mem_of_getElem? (i := 619) (by decide +kernel))) rfl
set_option maxRecDepth 20000 in
theorem t_620 : (Jvm.Cond.code ({ cls := "SketchCache$Seats", name := "asks", desc := "(III)Z" } : Jvm.MethodName) prog_8_method_3_code (6 : Nat) (Option.some Jvm.ClassFile.FieldType.boolean)) ∈ tk_tb := tk_in (List.mem_append_right _ (List.mem_of_getElem? (i := 620) (rfl))) rfl
set_option maxRecDepth 20000 in
theorem t_621 : (Jvm.Cond.methodLink "SketchCache$Seats" (52 : Nat) ({ cls := "SketchCache$Seats", name := "seatOf", desc := "(I)I" } : Jvm.MethodName)) ∈ tk_tb := tk_in (List.mem_append_right _ (List.mem_of_getElem? (i := 621) (by decide +kernel))) rfl
set_option maxRecDepth 20000 in
theorem q_622 : (Jvm.Cond.privateMethod ({ cls := "SketchCache$Seats", name := "seatOf", desc := "(I)I" } : Jvm.MethodName)) ∈ lw_tbl := List.mem_append_right _ (List.mem_of_getElem? (i := 622) (by decide +kernel))
set_option maxRecDepth 20000 in
theorem t_623 : (Jvm.Cond.instanceMethod ({ cls := "SketchCache$Seats", name := "seatOf", desc := "(I)I" } : Jvm.MethodName)) ∈ tk_tb := tk_in (List.mem_append_right _ (List.mem_of_getElem? (i := 623) (by decide +kernel))) rfl
set_option maxRecDepth 20000 in
theorem t_624 : (Jvm.Cond.code ({ cls := "SketchCache$Seats", name := "seatOf", desc := "(I)I" } : Jvm.MethodName) prog_8_method_5_code (3 : Nat) (Option.some Jvm.ClassFile.FieldType.int)) ∈ tk_tb := tk_in (List.mem_append_right _ (List.mem_of_getElem? (i := 624) (rfl))) rfl
set_option maxRecDepth 20000 in
theorem t_625 : (Jvm.Cond.methodLink "SketchCache$Seats" (56 : Nat) ({ cls := "SketchCache$Seats", name := "freeSeat", desc := "()I" } : Jvm.MethodName)) ∈ tk_tb := tk_in (List.mem_append_right _ (List.mem_of_getElem? (i := 625) (by decide +kernel))) rfl
set_option maxRecDepth 20000 in
theorem q_626 : (Jvm.Cond.privateMethod ({ cls := "SketchCache$Seats", name := "freeSeat", desc := "()I" } : Jvm.MethodName)) ∈ lw_tbl := List.mem_append_right _ (List.mem_of_getElem? (i := 626) (by decide +kernel))
set_option maxRecDepth 20000 in
theorem t_627 : (Jvm.Cond.instanceMethod ({ cls := "SketchCache$Seats", name := "freeSeat", desc := "()I" } : Jvm.MethodName)) ∈ tk_tb := tk_in (List.mem_append_right _ (List.mem_of_getElem? (i := 627) (by decide +kernel))) rfl
set_option maxRecDepth 20000 in
theorem t_628 : (Jvm.Cond.code ({ cls := "SketchCache$Seats", name := "freeSeat", desc := "()I" } : Jvm.MethodName) prog_8_method_6_code (1 : Nat) (Option.some Jvm.ClassFile.FieldType.int)) ∈ tk_tb := tk_in (List.mem_append_right _ (List.mem_of_getElem? (i := 628) (rfl))) rfl
set_option maxRecDepth 20000 in
theorem t_629 : (Jvm.Cond.methodLink "SketchCache$Seats" (60 : Nat) ({ cls := "SketchCache$Seats", name := "seatByHand", desc := "()I" } : Jvm.MethodName)) ∈ tk_tb := tk_in (List.mem_append_right _ (List.mem_of_getElem? (i := 629) (by decide +kernel))) rfl
set_option maxRecDepth 20000 in
theorem q_630 : (Jvm.Cond.privateMethod ({ cls := "SketchCache$Seats", name := "seatByHand", desc := "()I" } : Jvm.MethodName)) ∈ lw_tbl := List.mem_append_right _ (List.mem_of_getElem? (i := 630) (by decide +kernel))
set_option maxRecDepth 20000 in
theorem t_631 : (Jvm.Cond.instanceMethod ({ cls := "SketchCache$Seats", name := "seatByHand", desc := "()I" } : Jvm.MethodName)) ∈ tk_tb := tk_in (List.mem_append_right _ (List.mem_of_getElem? (i := 631) (by decide +kernel))) rfl
set_option maxRecDepth 20000 in
theorem t_632 : (Jvm.Cond.code ({ cls := "SketchCache$Seats", name := "seatByHand", desc := "()I" } : Jvm.MethodName) prog_8_method_7_code (2 : Nat) (Option.some Jvm.ClassFile.FieldType.int)) ∈ tk_tb := tk_in (List.mem_append_right _ (List.mem_of_getElem? (i := 632) (rfl))) rfl
set_option maxRecDepth 20000 in
theorem t_633 : (Jvm.Cond.methodLink "SketchCache$Seats" (66 : Nat) ({ cls := "SketchCache$Seats", name := "nextSeat", desc := "(I)I" } : Jvm.MethodName)) ∈ tk_tb := tk_in (List.mem_append_right _ (List.mem_of_getElem? (i := 633) (by decide +kernel))) rfl
set_option maxRecDepth 20000 in
theorem q_634 : (Jvm.Cond.privateMethod ({ cls := "SketchCache$Seats", name := "nextSeat", desc := "(I)I" } : Jvm.MethodName)) ∈ lw_tbl := List.mem_append_right _ (List.mem_of_getElem? (i := 634) (by decide +kernel))
set_option maxRecDepth 20000 in
theorem t_635 : (Jvm.Cond.instanceMethod ({ cls := "SketchCache$Seats", name := "nextSeat", desc := "(I)I" } : Jvm.MethodName)) ∈ tk_tb := tk_in (List.mem_append_right _ (List.mem_of_getElem? (i := 635) (by decide +kernel))) rfl
set_option maxRecDepth 20000 in
theorem t_636 : (Jvm.Cond.code ({ cls := "SketchCache$Seats", name := "nextSeat", desc := "(I)I" } : Jvm.MethodName) prog_8_method_8_code (2 : Nat) (Option.some Jvm.ClassFile.FieldType.int)) ∈ tk_tb := tk_in (List.mem_append_right _ (List.mem_of_getElem? (i := 636) (rfl))) rfl
set_option maxRecDepth 20000 in
theorem t_637 : (Jvm.Cond.methodLink "SketchCache$Seats" (63 : Nat) ({ cls := "SketchCache$Seats", name := "seatByRank", desc := "()I" } : Jvm.MethodName)) ∈ tk_tb := tk_in (List.mem_append_right _ (List.mem_of_getElem? (i := 637) (by decide +kernel))) rfl
set_option maxRecDepth 20000 in
theorem q_638 : (Jvm.Cond.privateMethod ({ cls := "SketchCache$Seats", name := "seatByRank", desc := "()I" } : Jvm.MethodName)) ∈ lw_tbl := List.mem_append_right _ (List.mem_of_getElem? (i := 638) (by decide +kernel))
set_option maxRecDepth 20000 in
theorem t_639 : (Jvm.Cond.instanceMethod ({ cls := "SketchCache$Seats", name := "seatByRank", desc := "()I" } : Jvm.MethodName)) ∈ tk_tb := tk_in (List.mem_append_right _ (List.mem_of_getElem? (i := 639) (by decide +kernel))) rfl
set_option maxRecDepth 20000 in
theorem t_640 : (Jvm.Cond.code ({ cls := "SketchCache$Seats", name := "seatByRank", desc := "()I" } : Jvm.MethodName) prog_8_method_9_code (3 : Nat) (Option.some Jvm.ClassFile.FieldType.int)) ∈ tk_tb := tk_in (List.mem_append_right _ (List.mem_of_getElem? (i := 640) (rfl))) rfl
set_option maxRecDepth 20000 in
theorem t_641 : (Jvm.Cond.methodLink "SketchCache$Seats" (69 : Nat) ({ cls := "SketchCache$Seats", name := "goesBefore", desc := "(II)Z" } : Jvm.MethodName)) ∈ tk_tb := tk_in (List.mem_append_right _ (List.mem_of_getElem? (i := 641) (by decide +kernel))) rfl
set_option maxRecDepth 20000 in
theorem q_642 : (Jvm.Cond.privateMethod ({ cls := "SketchCache$Seats", name := "goesBefore", desc := "(II)Z" } : Jvm.MethodName)) ∈ lw_tbl := List.mem_append_right _ (List.mem_of_getElem? (i := 642) (by decide +kernel))
set_option maxRecDepth 20000 in
theorem t_643 : (Jvm.Cond.instanceMethod ({ cls := "SketchCache$Seats", name := "goesBefore", desc := "(II)Z" } : Jvm.MethodName)) ∈ tk_tb := tk_in (List.mem_append_right _ (List.mem_of_getElem? (i := 643) (by decide +kernel))) rfl
set_option maxRecDepth 20000 in
theorem t_644 : (Jvm.Cond.code ({ cls := "SketchCache$Seats", name := "goesBefore", desc := "(II)Z" } : Jvm.MethodName) prog_8_method_10_code (3 : Nat) (Option.some Jvm.ClassFile.FieldType.boolean)) ∈ tk_tb := tk_in (List.mem_append_right _ (List.mem_of_getElem? (i := 644) (rfl))) rfl
set_option maxRecDepth 20000 in
theorem t_645 : (Jvm.Cond.methodLink "SketchCache$Player" (56 : Nat) ({ cls := "SketchCache$Player", name := "keepFrom", desc := "(LSketchCache$Policy;)V" } : Jvm.MethodName)) ∈ tk_tb := tk_in (List.mem_append_right _ (List.mem_of_getElem? (i := 645) (by decide +kernel))) rfl
set_option maxRecDepth 20000 in
theorem q_646 : (Jvm.Cond.privateMethod ({ cls := "SketchCache$Player", name := "keepFrom", desc := "(LSketchCache$Policy;)V" } : Jvm.MethodName)) ∈ lw_tbl := List.mem_append_right _ (List.mem_of_getElem? (i := 646) (by decide +kernel))
set_option maxRecDepth 20000 in
theorem t_647 : (Jvm.Cond.instanceMethod ({ cls := "SketchCache$Player", name := "keepFrom", desc := "(LSketchCache$Policy;)V" } : Jvm.MethodName)) ∈ tk_tb := tk_in (List.mem_append_right _ (List.mem_of_getElem? (i := 647) (by decide +kernel))) rfl
set_option maxRecDepth 20000 in
theorem t_648 : (Jvm.Cond.code ({ cls := "SketchCache$Player", name := "keepFrom", desc := "(LSketchCache$Policy;)V" } : Jvm.MethodName) prog_5_method_4_code (3 : Nat) (Option.none : Option Jvm.ClassFile.FieldType)) ∈ tk_tb := tk_in (List.mem_append_right _ (List.mem_of_getElem? (i := 648) (rfl))) rfl
set_option maxRecDepth 20000 in
theorem t_649 : (Jvm.Cond.methodLink "SketchCache$Player" (66 : Nat) ({ cls := "SketchCache$Policy", name := "holds", desc := "(I)Z" } : Jvm.MethodName)) ∈ tk_tb := tk_in (List.mem_append_right _ (List.mem_of_getElem? (i := 649) (by decide +kernel))) rfl
set_option maxRecDepth 20000 in
theorem q_650 : (Jvm.Cond.declares ({ cls := "SketchCache$Policy", name := "holds", desc := "(I)Z" } : Jvm.MethodName)) ∈ lw_tbl := List.mem_append_right _ (List.mem_of_getElem? (i := 650) (by decide +kernel))
set_option maxRecDepth 20000 in
theorem t_651 : (Jvm.Cond.sameMethod "SketchCache$Policy" "SketchCache$Policy" "holds" "(I)Z") ∈ tk_tb := tk_in (List.mem_append_right _ (List.mem_of_getElem? (i := 651) (by decide +kernel))) rfl
set_option maxRecDepth 20000 in
theorem t_652 : (Jvm.Cond.selects "SketchCache$FourRows" ({ cls := "SketchCache$Policy", name := "holds", desc := "(I)Z" } : Jvm.MethodName) ({ cls := "SketchCache$FourRows", name := "holds", desc := "(I)Z" } : Jvm.MethodName)) ∈ tk_tb := tk_in (List.mem_append_right _ (List.mem_of_getElem? (i := 652) (by decide +kernel))) rfl
set_option maxRecDepth 20000 in
theorem t_653 : (Jvm.Cond.instanceMethod ({ cls := "SketchCache$FourRows", name := "holds", desc := "(I)Z" } : Jvm.MethodName)) ∈ tk_tb := tk_in (List.mem_append_right _ (List.mem_of_getElem? (i := 653) (by decide +kernel))) rfl
set_option maxRecDepth 20000 in
theorem t_654 : (Jvm.Cond.code ({ cls := "SketchCache$FourRows", name := "holds", desc := "(I)Z" } : Jvm.MethodName) prog_4_method_4_code (2 : Nat) (Option.some Jvm.ClassFile.FieldType.boolean)) ∈ tk_tb := tk_in (List.mem_append_right _ (List.mem_of_getElem? (i := 654) (rfl))) rfl
set_option maxRecDepth 20000 in
theorem t_655 : (Jvm.Cond.selects "SketchCache$Seats" ({ cls := "SketchCache$Policy", name := "holds", desc := "(I)Z" } : Jvm.MethodName) ({ cls := "SketchCache$Seats", name := "holds", desc := "(I)Z" } : Jvm.MethodName)) ∈ tk_tb := tk_in (List.mem_append_right _ (List.mem_of_getElem? (i := 655) (by decide +kernel))) rfl
set_option maxRecDepth 20000 in
theorem t_656 : (Jvm.Cond.instanceMethod ({ cls := "SketchCache$Seats", name := "holds", desc := "(I)Z" } : Jvm.MethodName)) ∈ tk_tb := tk_in (List.mem_append_right _ (List.mem_of_getElem? (i := 656) (by decide +kernel))) rfl
set_option maxRecDepth 20000 in
theorem t_657 : (Jvm.Cond.code ({ cls := "SketchCache$Seats", name := "holds", desc := "(I)Z" } : Jvm.MethodName) prog_8_method_4_code (2 : Nat) (Option.some Jvm.ClassFile.FieldType.boolean)) ∈ tk_tb := tk_in (List.mem_append_right _ (List.mem_of_getElem? (i := 657) (rfl))) rfl
set_option maxRecDepth 20000 in
theorem t_658 : (Jvm.Cond.methodLink "SketchCacheLaw" (89 : Nat) ({ cls := "SketchCache", name := "kept", desc := "(I)I" } : Jvm.MethodName)) ∈ tk_tb := tk_in (List.mem_append_right _ (List.mem_of_getElem? (i := 658) (by decide +kernel))) rfl
set_option maxRecDepth 20000 in
theorem t_659 : (Jvm.Cond.instanceMethod ({ cls := "SketchCache", name := "kept", desc := "(I)I" } : Jvm.MethodName)) ∈ tk_tb := tk_in (List.mem_append_right _ (List.mem_of_getElem? (i := 659) (by decide +kernel))) rfl
set_option maxRecDepth 20000 in
theorem t_660 : (Jvm.Cond.selects "SketchCache" ({ cls := "SketchCache", name := "kept", desc := "(I)I" } : Jvm.MethodName) ({ cls := "SketchCache", name := "kept", desc := "(I)I" } : Jvm.MethodName)) ∈ tk_tb := tk_in (List.mem_append_right _ (List.mem_of_getElem? (i := 660) (by decide +kernel))) rfl
set_option maxRecDepth 20000 in
theorem t_661 : (Jvm.Cond.code ({ cls := "SketchCache", name := "kept", desc := "(I)I" } : Jvm.MethodName) prog_1_method_18_code (2 : Nat) (Option.some Jvm.ClassFile.FieldType.int)) ∈ tk_tb := tk_in (List.mem_append_right _ (List.mem_of_getElem? (i := 661) (rfl))) rfl
set_option maxRecDepth 20000 in
theorem t_662 : (Jvm.Cond.methodLink "SketchCache" (135 : Nat) ({ cls := "SketchCache$Player", name := "keptAt", desc := "(I)I" } : Jvm.MethodName)) ∈ tk_tb := tk_in (List.mem_append_right _ (List.mem_of_getElem? (i := 662) (by decide +kernel))) rfl
set_option maxRecDepth 20000 in
theorem t_663 : (Jvm.Cond.instanceMethod ({ cls := "SketchCache$Player", name := "keptAt", desc := "(I)I" } : Jvm.MethodName)) ∈ tk_tb := tk_in (List.mem_append_right _ (List.mem_of_getElem? (i := 663) (by decide +kernel))) rfl
set_option maxRecDepth 20000 in
theorem t_664 : (Jvm.Cond.selects "SketchCache$Player" ({ cls := "SketchCache$Player", name := "keptAt", desc := "(I)I" } : Jvm.MethodName) ({ cls := "SketchCache$Player", name := "keptAt", desc := "(I)I" } : Jvm.MethodName)) ∈ tk_tb := tk_in (List.mem_append_right _ (List.mem_of_getElem? (i := 664) (by decide +kernel))) rfl
set_option maxRecDepth 20000 in
theorem t_665 : (Jvm.Cond.code ({ cls := "SketchCache$Player", name := "keptAt", desc := "(I)I" } : Jvm.MethodName) prog_5_method_5_code (2 : Nat) (Option.some Jvm.ClassFile.FieldType.int)) ∈ tk_tb := tk_in (List.mem_append_right _ (List.mem_of_getElem? (i := 665) (rfl))) rfl
set_option maxRecDepth 20000 in
theorem t_666 : (Jvm.Cond.methodLink "SketchCacheLaw" (93 : Nat) ({ cls := "SketchCache", name := "save", desc := "(I)I" } : Jvm.MethodName)) ∈ tk_tb := tk_in (List.mem_append_right _ (List.mem_of_getElem? (i := 666) (by decide +kernel))) rfl
set_option maxRecDepth 20000 in
theorem t_667 : (Jvm.Cond.instanceMethod ({ cls := "SketchCache", name := "save", desc := "(I)I" } : Jvm.MethodName)) ∈ tk_tb := tk_in (List.mem_append_right _ (List.mem_of_getElem? (i := 667) (by decide +kernel))) rfl
set_option maxRecDepth 20000 in
theorem t_668 : (Jvm.Cond.selects "SketchCache" ({ cls := "SketchCache", name := "save", desc := "(I)I" } : Jvm.MethodName) ({ cls := "SketchCache", name := "save", desc := "(I)I" } : Jvm.MethodName)) ∈ tk_tb := tk_in (List.mem_append_right _ (List.mem_of_getElem? (i := 668) (by decide +kernel))) rfl
set_option maxRecDepth 20000 in
theorem t_669 : (Jvm.Cond.code ({ cls := "SketchCache", name := "save", desc := "(I)I" } : Jvm.MethodName) prog_1_method_19_code (2 : Nat) (Option.some Jvm.ClassFile.FieldType.int)) ∈ tk_tb := tk_in (List.mem_append_right _ (List.mem_of_getElem? (i := 669) (rfl))) rfl
set_option maxRecDepth 20000 in
theorem t_670 : (Jvm.Cond.methodLink "SketchCache" (138 : Nat) ({ cls := "SketchCache$State", name := "copyFrom", desc := "(LSketchCache$State;)V" } : Jvm.MethodName)) ∈ tk_tb := tk_in (List.mem_append_right _ (List.mem_of_getElem? (i := 670) (by decide +kernel))) rfl
set_option maxRecDepth 20000 in
theorem t_671 : (Jvm.Cond.instanceMethod ({ cls := "SketchCache$State", name := "copyFrom", desc := "(LSketchCache$State;)V" } : Jvm.MethodName)) ∈ tk_tb := tk_in (List.mem_append_right _ (List.mem_of_getElem? (i := 671) (by decide +kernel))) rfl
set_option maxRecDepth 20000 in
theorem t_672 : (Jvm.Cond.selects "SketchCache$State" ({ cls := "SketchCache$State", name := "copyFrom", desc := "(LSketchCache$State;)V" } : Jvm.MethodName) ({ cls := "SketchCache$State", name := "copyFrom", desc := "(LSketchCache$State;)V" } : Jvm.MethodName)) ∈ tk_tb := tk_in (List.mem_append_right _ (List.mem_of_getElem? (i := 672) (by decide +kernel))) rfl
set_option maxRecDepth 20000 in
theorem t_673 : (Jvm.Cond.code ({ cls := "SketchCache$State", name := "copyFrom", desc := "(LSketchCache$State;)V" } : Jvm.MethodName) prog_10_method_5_code (2 : Nat) (Option.none : Option Jvm.ClassFile.FieldType)) ∈ tk_tb := tk_in (List.mem_append_right _ (List.mem_of_getElem? (i := 673) (rfl))) rfl
set_option maxRecDepth 20000 in
theorem t_674 : (Jvm.Cond.methodLink "SketchCache$State" (132 : Nat) ({ cls := "SketchCache$Cache", name := "copyFrom", desc := "(LSketchCache$Cache;)V" } : Jvm.MethodName)) ∈ tk_tb := tk_in (List.mem_append_right _ (List.mem_of_getElem? (i := 674) (by decide +kernel))) rfl
set_option maxRecDepth 20000 in
theorem t_675 : (Jvm.Cond.instanceMethod ({ cls := "SketchCache$Cache", name := "copyFrom", desc := "(LSketchCache$Cache;)V" } : Jvm.MethodName)) ∈ tk_tb := tk_in (List.mem_append_right _ (List.mem_of_getElem? (i := 675) (by decide +kernel))) rfl
set_option maxRecDepth 20000 in
theorem t_676 : (Jvm.Cond.selects "SketchCache$Cache" ({ cls := "SketchCache$Cache", name := "copyFrom", desc := "(LSketchCache$Cache;)V" } : Jvm.MethodName) ({ cls := "SketchCache$Cache", name := "copyFrom", desc := "(LSketchCache$Cache;)V" } : Jvm.MethodName)) ∈ tk_tb := tk_in (List.mem_append_right _ (List.mem_of_getElem? (i := 676) (by decide +kernel))) rfl
set_option maxRecDepth 20000 in
theorem t_677 : (Jvm.Cond.code ({ cls := "SketchCache$Cache", name := "copyFrom", desc := "(LSketchCache$Cache;)V" } : Jvm.MethodName) prog_2_method_18_code (2 : Nat) (Option.none : Option Jvm.ClassFile.FieldType)) ∈ tk_tb := tk_in (List.mem_append_right _ (List.mem_of_getElem? (i := 677) (rfl))) rfl
set_option maxRecDepth 20000 in
theorem t_678 : (Jvm.Cond.methodLink "SketchCache$Cache" (117 : Nat) ({ cls := "SketchCache$Sketch", name := "copyFrom", desc := "(LSketchCache$Sketch;)V" } : Jvm.MethodName)) ∈ tk_tb := tk_in (List.mem_append_right _ (List.mem_of_getElem? (i := 678) (by decide +kernel))) rfl
set_option maxRecDepth 20000 in
theorem t_679 : (Jvm.Cond.instanceMethod ({ cls := "SketchCache$Sketch", name := "copyFrom", desc := "(LSketchCache$Sketch;)V" } : Jvm.MethodName)) ∈ tk_tb := tk_in (List.mem_append_right _ (List.mem_of_getElem? (i := 679) (by decide +kernel))) rfl
set_option maxRecDepth 20000 in
theorem t_680 : (Jvm.Cond.selects "SketchCache$Sketch" ({ cls := "SketchCache$Sketch", name := "copyFrom", desc := "(LSketchCache$Sketch;)V" } : Jvm.MethodName) ({ cls := "SketchCache$Sketch", name := "copyFrom", desc := "(LSketchCache$Sketch;)V" } : Jvm.MethodName)) ∈ tk_tb := tk_in (List.mem_append_right _ (List.mem_of_getElem? (i := 680) (by decide +kernel))) rfl
set_option maxRecDepth 20000 in
theorem t_681 : (Jvm.Cond.code ({ cls := "SketchCache$Sketch", name := "copyFrom", desc := "(LSketchCache$Sketch;)V" } : Jvm.MethodName) prog_9_method_15_code (3 : Nat) (Option.none : Option Jvm.ClassFile.FieldType)) ∈ tk_tb := tk_in (List.mem_append_right _ (List.mem_of_getElem? (i := 681) (rfl))) rfl
set_option maxRecDepth 20000 in
theorem t_682 : (Jvm.Cond.methodLink "SketchCache$Sketch" (85 : Nat) ({ cls := "java/lang/System", name := "arraycopy", desc := "(Ljava/lang/Object;ILjava/lang/Object;II)V" } : Jvm.MethodName)) ∈ tk_tb := tk_in (List.mem_append_right _ (List.mem_of_getElem? (i := 682) (by decide +kernel))) rfl
set_option maxRecDepth 20000 in
theorem t_683 : (Jvm.Cond.static ({ cls := "java/lang/System", name := "arraycopy", desc := "(Ljava/lang/Object;ILjava/lang/Object;II)V" } : Jvm.MethodName)) ∈ tk_tb := tk_in (List.mem_append_right _ (List.mem_of_getElem? (i := 683) (by decide +kernel))) rfl
set_option maxRecDepth 20000 in
theorem t_684 : (Jvm.Cond.native ({ cls := "java/lang/System", name := "arraycopy", desc := "(Ljava/lang/Object;ILjava/lang/Object;II)V" } : Jvm.MethodName)) ∈ tk_tb := tk_in (List.mem_append_right _ (List.mem_of_getElem? (i := 684) (by decide +kernel))) rfl
set_option maxRecDepth 20000 in
theorem t_685 : (Jvm.Cond.methodLink "SketchCache$Cache" (121 : Nat) ({ cls := "SketchCache$Rows", name := "copyFrom", desc := "(LSketchCache$Rows;)V" } : Jvm.MethodName)) ∈ tk_tb := tk_in (List.mem_append_right _ (List.mem_of_getElem? (i := 685) (by decide +kernel))) rfl
set_option maxRecDepth 20000 in
theorem t_686 : (Jvm.Cond.instanceMethod ({ cls := "SketchCache$Rows", name := "copyFrom", desc := "(LSketchCache$Rows;)V" } : Jvm.MethodName)) ∈ tk_tb := tk_in (List.mem_append_right _ (List.mem_of_getElem? (i := 686) (by decide +kernel))) rfl
set_option maxRecDepth 20000 in
theorem t_687 : (Jvm.Cond.selects "SketchCache$Rows" ({ cls := "SketchCache$Rows", name := "copyFrom", desc := "(LSketchCache$Rows;)V" } : Jvm.MethodName) ({ cls := "SketchCache$Rows", name := "copyFrom", desc := "(LSketchCache$Rows;)V" } : Jvm.MethodName)) ∈ tk_tb := tk_in (List.mem_append_right _ (List.mem_of_getElem? (i := 687) (by decide +kernel))) rfl
set_option maxRecDepth 20000 in
theorem t_688 : (Jvm.Cond.code ({ cls := "SketchCache$Rows", name := "copyFrom", desc := "(LSketchCache$Rows;)V" } : Jvm.MethodName) prog_7_method_11_code (3 : Nat) (Option.none : Option Jvm.ClassFile.FieldType)) ∈ tk_tb := tk_in (List.mem_append_right _ (List.mem_of_getElem? (i := 688) (rfl))) rfl
set_option maxRecDepth 20000 in
theorem t_689 : (Jvm.Cond.methodLink "SketchCache$Rows" (52 : Nat) ({ cls := "java/lang/System", name := "arraycopy", desc := "(Ljava/lang/Object;ILjava/lang/Object;II)V" } : Jvm.MethodName)) ∈ tk_tb := tk_in (List.mem_append_right _ (List.mem_of_getElem? (i := 689) (by decide +kernel))) rfl
set_option maxRecDepth 20000 in
theorem t_690 : (Jvm.Cond.methodLink "SketchCache$State" (136 : Nat) ({ cls := "SketchCache$Trace", name := "copyFrom", desc := "(LSketchCache$Trace;)V" } : Jvm.MethodName)) ∈ tk_tb := tk_in (List.mem_append_right _ (List.mem_of_getElem? (i := 690) (by decide +kernel))) rfl
set_option maxRecDepth 20000 in
theorem t_691 : (Jvm.Cond.instanceMethod ({ cls := "SketchCache$Trace", name := "copyFrom", desc := "(LSketchCache$Trace;)V" } : Jvm.MethodName)) ∈ tk_tb := tk_in (List.mem_append_right _ (List.mem_of_getElem? (i := 691) (by decide +kernel))) rfl
set_option maxRecDepth 20000 in
theorem t_692 : (Jvm.Cond.selects "SketchCache$Trace" ({ cls := "SketchCache$Trace", name := "copyFrom", desc := "(LSketchCache$Trace;)V" } : Jvm.MethodName) ({ cls := "SketchCache$Trace", name := "copyFrom", desc := "(LSketchCache$Trace;)V" } : Jvm.MethodName)) ∈ tk_tb := tk_in (List.mem_append_right _ (List.mem_of_getElem? (i := 692) (by decide +kernel))) rfl
set_option maxRecDepth 20000 in
theorem t_693 : (Jvm.Cond.code ({ cls := "SketchCache$Trace", name := "copyFrom", desc := "(LSketchCache$Trace;)V" } : Jvm.MethodName) prog_11_method_4_code (2 : Nat) (Option.none : Option Jvm.ClassFile.FieldType)) ∈ tk_tb := tk_in (List.mem_append_right _ (List.mem_of_getElem? (i := 693) (rfl))) rfl
set_option maxRecDepth 20000 in
theorem t_694 : (Jvm.Cond.methodLink "SketchCache$Trace" (22 : Nat) ({ cls := "java/lang/System", name := "arraycopy", desc := "(Ljava/lang/Object;ILjava/lang/Object;II)V" } : Jvm.MethodName)) ∈ tk_tb := tk_in (List.mem_append_right _ (List.mem_of_getElem? (i := 694) (by decide +kernel))) rfl
set_option maxRecDepth 20000 in
theorem t_695 : (Jvm.Cond.methodLink "SketchCache$State" (139 : Nat) ({ cls := "SketchCache$Climb", name := "copyFrom", desc := "(LSketchCache$Climb;)V" } : Jvm.MethodName)) ∈ tk_tb := tk_in (List.mem_append_right _ (List.mem_of_getElem? (i := 695) (by decide +kernel))) rfl
set_option maxRecDepth 20000 in
theorem t_696 : (Jvm.Cond.instanceMethod ({ cls := "SketchCache$Climb", name := "copyFrom", desc := "(LSketchCache$Climb;)V" } : Jvm.MethodName)) ∈ tk_tb := tk_in (List.mem_append_right _ (List.mem_of_getElem? (i := 696) (by decide +kernel))) rfl
set_option maxRecDepth 20000 in
theorem t_697 : (Jvm.Cond.selects "SketchCache$Climb" ({ cls := "SketchCache$Climb", name := "copyFrom", desc := "(LSketchCache$Climb;)V" } : Jvm.MethodName) ({ cls := "SketchCache$Climb", name := "copyFrom", desc := "(LSketchCache$Climb;)V" } : Jvm.MethodName)) ∈ tk_tb := tk_in (List.mem_append_right _ (List.mem_of_getElem? (i := 697) (by decide +kernel))) rfl
set_option maxRecDepth 20000 in
theorem t_698 : (Jvm.Cond.code ({ cls := "SketchCache$Climb", name := "copyFrom", desc := "(LSketchCache$Climb;)V" } : Jvm.MethodName) prog_3_method_6_code (2 : Nat) (Option.none : Option Jvm.ClassFile.FieldType)) ∈ tk_tb := tk_in (List.mem_append_right _ (List.mem_of_getElem? (i := 698) (rfl))) rfl
set_option maxRecDepth 20000 in
theorem t_699 : (Jvm.Cond.methodLink "SketchCacheLaw" (97 : Nat) ({ cls := "SketchCache", name := "load", desc := "(I)I" } : Jvm.MethodName)) ∈ tk_tb := tk_in (List.mem_append_right _ (List.mem_of_getElem? (i := 699) (by decide +kernel))) rfl
set_option maxRecDepth 20000 in
theorem t_700 : (Jvm.Cond.instanceMethod ({ cls := "SketchCache", name := "load", desc := "(I)I" } : Jvm.MethodName)) ∈ tk_tb := tk_in (List.mem_append_right _ (List.mem_of_getElem? (i := 700) (by decide +kernel))) rfl
set_option maxRecDepth 20000 in
theorem t_701 : (Jvm.Cond.selects "SketchCache" ({ cls := "SketchCache", name := "load", desc := "(I)I" } : Jvm.MethodName) ({ cls := "SketchCache", name := "load", desc := "(I)I" } : Jvm.MethodName)) ∈ tk_tb := tk_in (List.mem_append_right _ (List.mem_of_getElem? (i := 701) (by decide +kernel))) rfl
set_option maxRecDepth 20000 in
theorem t_702 : (Jvm.Cond.code ({ cls := "SketchCache", name := "load", desc := "(I)I" } : Jvm.MethodName) prog_1_method_20_code (2 : Nat) (Option.some Jvm.ClassFile.FieldType.int)) ∈ tk_tb := tk_in (List.mem_append_right _ (List.mem_of_getElem? (i := 702) (rfl))) rfl
set_option maxRecDepth 20000 in
theorem t_703 : (Jvm.Cond.methodLink "SketchCacheLaw" (101 : Nat) ({ cls := "SketchCache", name := "sound", desc := "()I" } : Jvm.MethodName)) ∈ tk_tb := tk_in (List.mem_append_right _ (List.mem_of_getElem? (i := 703) (by decide +kernel))) rfl
set_option maxRecDepth 20000 in
theorem t_704 : (Jvm.Cond.instanceMethod ({ cls := "SketchCache", name := "sound", desc := "()I" } : Jvm.MethodName)) ∈ tk_tb := tk_in (List.mem_append_right _ (List.mem_of_getElem? (i := 704) (by decide +kernel))) rfl
set_option maxRecDepth 20000 in
theorem t_705 : (Jvm.Cond.selects "SketchCache" ({ cls := "SketchCache", name := "sound", desc := "()I" } : Jvm.MethodName) ({ cls := "SketchCache", name := "sound", desc := "()I" } : Jvm.MethodName)) ∈ tk_tb := tk_in (List.mem_append_right _ (List.mem_of_getElem? (i := 705) (by decide +kernel))) rfl
set_option maxRecDepth 20000 in
theorem t_706 : (Jvm.Cond.code ({ cls := "SketchCache", name := "sound", desc := "()I" } : Jvm.MethodName) prog_1_method_21_code (1 : Nat) (Option.some Jvm.ClassFile.FieldType.int)) ∈ tk_tb := tk_in (List.mem_append_right _ (List.mem_of_getElem? (i := 706) (rfl))) rfl
set_option maxRecDepth 20000 in
theorem t_707 : (Jvm.Cond.methodLink "SketchCache" (145 : Nat) ({ cls := "SketchCache$Cache", name := "isSound", desc := "()Z" } : Jvm.MethodName)) ∈ tk_tb := tk_in (List.mem_append_right _ (List.mem_of_getElem? (i := 707) (by decide +kernel))) rfl
set_option maxRecDepth 20000 in
theorem t_708 : (Jvm.Cond.instanceMethod ({ cls := "SketchCache$Cache", name := "isSound", desc := "()Z" } : Jvm.MethodName)) ∈ tk_tb := tk_in (List.mem_append_right _ (List.mem_of_getElem? (i := 708) (by decide +kernel))) rfl
set_option maxRecDepth 20000 in
theorem t_709 : (Jvm.Cond.selects "SketchCache$Cache" ({ cls := "SketchCache$Cache", name := "isSound", desc := "()Z" } : Jvm.MethodName) ({ cls := "SketchCache$Cache", name := "isSound", desc := "()Z" } : Jvm.MethodName)) ∈ tk_tb := tk_in (List.mem_append_right _ (List.mem_of_getElem? (i := 709) (by decide +kernel))) rfl
set_option maxRecDepth 20000 in
theorem t_710 : (Jvm.Cond.code ({ cls := "SketchCache$Cache", name := "isSound", desc := "()Z" } : Jvm.MethodName) prog_2_method_17_code (2 : Nat) (Option.some Jvm.ClassFile.FieldType.boolean)) ∈ tk_tb := tk_in (List.mem_append_right _ (List.mem_of_getElem? (i := 710) (rfl))) rfl
set_option maxRecDepth 20000 in
theorem t_711 : (Jvm.Cond.methodLink "SketchCache$Cache" (111 : Nat) ({ cls := "SketchCache$Rows", name := "appearancesOf", desc := "(I)I" } : Jvm.MethodName)) ∈ tk_tb := tk_in (List.mem_append_right _ (List.mem_of_getElem? (i := 711) (by decide +kernel))) rfl
set_option maxRecDepth 20000 in
theorem t_712 : (Jvm.Cond.instanceMethod ({ cls := "SketchCache$Rows", name := "appearancesOf", desc := "(I)I" } : Jvm.MethodName)) ∈ tk_tb := tk_in (List.mem_append_right _ (List.mem_of_getElem? (i := 712) (by decide +kernel))) rfl
set_option maxRecDepth 20000 in
theorem t_713 : (Jvm.Cond.selects "SketchCache$Rows" ({ cls := "SketchCache$Rows", name := "appearancesOf", desc := "(I)I" } : Jvm.MethodName) ({ cls := "SketchCache$Rows", name := "appearancesOf", desc := "(I)I" } : Jvm.MethodName)) ∈ tk_tb := tk_in (List.mem_append_right _ (List.mem_of_getElem? (i := 713) (by decide +kernel))) rfl
set_option maxRecDepth 20000 in
theorem t_714 : (Jvm.Cond.code ({ cls := "SketchCache$Rows", name := "appearancesOf", desc := "(I)I" } : Jvm.MethodName) prog_7_method_9_code (5 : Nat) (Option.some Jvm.ClassFile.FieldType.int)) ∈ tk_tb := tk_in (List.mem_append_right _ (List.mem_of_getElem? (i := 714) (rfl))) rfl
set_option maxRecDepth 20000 in
theorem t_715 : (Jvm.Cond.methodLink "SketchCache$Cache" (114 : Nat) ({ cls := "SketchCache$Rows", name := "countedUnits", desc := "(I)I" } : Jvm.MethodName)) ∈ tk_tb := tk_in (List.mem_append_right _ (List.mem_of_getElem? (i := 715) (by decide +kernel))) rfl
set_option maxRecDepth 20000 in
theorem t_716 : (Jvm.Cond.instanceMethod ({ cls := "SketchCache$Rows", name := "countedUnits", desc := "(I)I" } : Jvm.MethodName)) ∈ tk_tb := tk_in (List.mem_append_right _ (List.mem_of_getElem? (i := 716) (by decide +kernel))) rfl
set_option maxRecDepth 20000 in
theorem t_717 : (Jvm.Cond.selects "SketchCache$Rows" ({ cls := "SketchCache$Rows", name := "countedUnits", desc := "(I)I" } : Jvm.MethodName) ({ cls := "SketchCache$Rows", name := "countedUnits", desc := "(I)I" } : Jvm.MethodName)) ∈ tk_tb := tk_in (List.mem_append_right _ (List.mem_of_getElem? (i := 717) (by decide +kernel))) rfl
set_option maxRecDepth 20000 in
theorem t_718 : (Jvm.Cond.code ({ cls := "SketchCache$Rows", name := "countedUnits", desc := "(I)I" } : Jvm.MethodName) prog_7_method_10_code (4 : Nat) (Option.some Jvm.ClassFile.FieldType.int)) ∈ tk_tb := tk_in (List.mem_append_right _ (List.mem_of_getElem? (i := 718) (rfl))) rfl
set_option maxRecDepth 20000 in
theorem t_719 : (Jvm.Cond.methodLink "SketchCache" (149 : Nat) ({ cls := "SketchCache$Sketch", name := "isSound", desc := "()Z" } : Jvm.MethodName)) ∈ tk_tb := tk_in (List.mem_append_right _ (List.mem_of_getElem? (i := 719) (by decide +kernel))) rfl
set_option maxRecDepth 20000 in
theorem t_720 : (Jvm.Cond.instanceMethod ({ cls := "SketchCache$Sketch", name := "isSound", desc := "()Z" } : Jvm.MethodName)) ∈ tk_tb := tk_in (List.mem_append_right _ (List.mem_of_getElem? (i := 720) (by decide +kernel))) rfl
set_option maxRecDepth 20000 in
theorem t_721 : (Jvm.Cond.selects "SketchCache$Sketch" ({ cls := "SketchCache$Sketch", name := "isSound", desc := "()Z" } : Jvm.MethodName) ({ cls := "SketchCache$Sketch", name := "isSound", desc := "()Z" } : Jvm.MethodName)) ∈ tk_tb := tk_in (List.mem_append_right _ (List.mem_of_getElem? (i := 721) (by decide +kernel))) rfl
set_option maxRecDepth 20000 in
theorem t_722 : (Jvm.Cond.code ({ cls := "SketchCache$Sketch", name := "isSound", desc := "()Z" } : Jvm.MethodName) prog_9_method_14_code (3 : Nat) (Option.some Jvm.ClassFile.FieldType.boolean)) ∈ tk_tb := tk_in (List.mem_append_right _ (List.mem_of_getElem? (i := 722) (rfl))) rfl
set_option maxRecDepth 20000 in
theorem t_723 : (Jvm.Cond.methodLink "SketchCache$Sketch" (82 : Nat) ({ cls := "SketchCache$Sketch", name := "guess", desc := "(I)I" } : Jvm.MethodName)) ∈ tk_tb := tk_in (List.mem_append_right _ (List.mem_of_getElem? (i := 723) (by decide +kernel))) rfl
set_option maxRecDepth 20000 in
theorem t_724 : (Jvm.Cond.methodLink "SketchCacheLaw" (9 : Nat) ({ cls := "SketchCacheLaw", name := "cell", desc := "([II)I" } : Jvm.MethodName)) ∈ tk_tb := tk_in (List.mem_append_right _ (List.mem_of_getElem? (i := 724) (by decide +kernel))) rfl
set_option maxRecDepth 20000 in
theorem t_725 : (Jvm.Cond.static ({ cls := "SketchCacheLaw", name := "cell", desc := "([II)I" } : Jvm.MethodName)) ∈ tk_tb := tk_in (List.mem_append_right _ (List.mem_of_getElem? (i := 725) (by decide +kernel))) rfl
set_option maxRecDepth 20000 in
theorem t_726 : (Jvm.Cond.code ({ cls := "SketchCacheLaw", name := "cell", desc := "([II)I" } : Jvm.MethodName) method_2_code (2 : Nat) (Option.some Jvm.ClassFile.FieldType.int)) ∈ tk_tb := tk_in (List.mem_append_right _ (List.mem_of_getElem? (i := 726) (rfl))) rfl
set_option maxRecDepth 20000 in
theorem t_727 : (Jvm.Cond.classLink "SketchCacheLaw" (18 : Nat) "SketchCacheModel") ∈ tk_tb := tk_in (List.mem_append_right _ (List.mem_of_getElem? (i := 727) (by decide +kernel))) rfl
set_option maxRecDepth 20000 in
theorem t_728 : (Jvm.Cond.instantiable "SketchCacheModel" (17 : Nat)) ∈ tk_tb := tk_in (List.mem_append_right _ (List.mem_of_getElem? (i := 728) (by decide +kernel))) rfl
set_option maxRecDepth 20000 in
theorem t_729 : (Jvm.Cond.methodLink "SketchCacheLaw" (20 : Nat) ({ cls := "SketchCacheModel", name := "<init>", desc := "(III)V" } : Jvm.MethodName)) ∈ tk_tb := tk_in (List.mem_append_right _ (List.mem_of_getElem? (i := 729) (by decide +kernel))) rfl
set_option maxRecDepth 20000 in
theorem t_730 : (Jvm.Cond.instanceMethod ({ cls := "SketchCacheModel", name := "<init>", desc := "(III)V" } : Jvm.MethodName)) ∈ tk_tb := tk_in (List.mem_append_right _ (List.mem_of_getElem? (i := 730) (by decide +kernel))) rfl
set_option maxRecDepth 20000 in
theorem t_731 : (Jvm.Cond.code ({ cls := "SketchCacheModel", name := "<init>", desc := "(III)V" } : Jvm.MethodName) prog_13_method_1_code (6 : Nat) (Option.none : Option Jvm.ClassFile.FieldType)) ∈ tk_tb := tk_in (List.mem_append_right _ (List.mem_of_getElem? (i := 731) (rfl))) rfl
set_option maxRecDepth 20000 in
theorem t_732 : (Jvm.Cond.methodLink "SketchCacheModel" (1 : Nat) ({ cls := "java/lang/Object", name := "<init>", desc := "()V" } : Jvm.MethodName)) ∈ tk_tb := tk_in (List.mem_append_right _ (List.mem_of_getElem? (i := 732) (by decide +kernel))) rfl
set_option maxRecDepth 20000 in
theorem t_733 : (Jvm.Cond.methodLink "SketchCacheModel" (44 : Nat) ({ cls := "SketchCacheModel", name := "within", desc := "(III)I" } : Jvm.MethodName)) ∈ tk_tb := tk_in (List.mem_append_right _ (List.mem_of_getElem? (i := 733) (by decide +kernel))) rfl
set_option maxRecDepth 20000 in
theorem t_734 : (Jvm.Cond.static ({ cls := "SketchCacheModel", name := "within", desc := "(III)I" } : Jvm.MethodName)) ∈ tk_tb := tk_in (List.mem_append_right _ (List.mem_of_getElem? (i := 734) (by decide +kernel))) rfl
set_option maxRecDepth 20000 in
theorem t_735 : (Jvm.Cond.code ({ cls := "SketchCacheModel", name := "within", desc := "(III)I" } : Jvm.MethodName) prog_13_method_2_code (3 : Nat) (Option.some Jvm.ClassFile.FieldType.int)) ∈ tk_tb := tk_in (List.mem_append_right _ (List.mem_of_getElem? (i := 735) (rfl))) rfl
set_option maxRecDepth 20000 in
theorem t_736 : (Jvm.Cond.methodLink "SketchCacheModel" (55 : Nat) ({ cls := "SketchCacheModel", name := "setWindow", desc := "(I)V" } : Jvm.MethodName)) ∈ tk_tb := tk_in (List.mem_append_right _ (List.mem_of_getElem? (i := 736) (by decide +kernel))) rfl
set_option maxRecDepth 20000 in
theorem q_737 : (Jvm.Cond.privateMethod ({ cls := "SketchCacheModel", name := "setWindow", desc := "(I)V" } : Jvm.MethodName)) ∈ lw_tbl := List.mem_append_right _ (List.mem_of_getElem? (i := 737) (by decide +kernel))
set_option maxRecDepth 20000 in
theorem t_738 : (Jvm.Cond.instanceMethod ({ cls := "SketchCacheModel", name := "setWindow", desc := "(I)V" } : Jvm.MethodName)) ∈ tk_tb := tk_in (List.mem_append_right _ (List.mem_of_getElem? (i := 738) (by decide +kernel))) rfl
set_option maxRecDepth 20000 in
theorem t_739 : (Jvm.Cond.code ({ cls := "SketchCacheModel", name := "setWindow", desc := "(I)V" } : Jvm.MethodName) prog_13_method_5_code (2 : Nat) (Option.none : Option Jvm.ClassFile.FieldType)) ∈ tk_tb := tk_in (List.mem_append_right _ (List.mem_of_getElem? (i := 739) (rfl))) rfl
set_option maxRecDepth 20000 in
theorem t_740 : (Jvm.Cond.fieldLink "SketchCacheModel" (48 : Nat) "SketchCacheModel" "rows" "I") ∈ tk_tb := tk_in (List.mem_append_right _ (List.mem_of_getElem? (i := 740) (by decide +kernel))) rfl
set_option maxRecDepth 20000 in
theorem t_741 : (Jvm.Cond.fieldLink "SketchCacheModel" (52 : Nat) "SketchCacheModel" "capacity" "I") ∈ tk_tb := tk_in (List.mem_append_right _ (List.mem_of_getElem? (i := 741) (by decide +kernel))) rfl
set_option maxRecDepth 20000 in
theorem t_742 : (Jvm.Cond.fieldLink "SketchCacheModel" (7 : Nat) "SketchCacheModel" "now" "[I") ∈ tk_tb := tk_in (List.mem_append_right _ (List.mem_of_getElem? (i := 742) (by decide +kernel))) rfl
set_option maxRecDepth 20000 in
theorem t_743 : (Jvm.Cond.fieldLink "SketchCacheModel" (13 : Nat) "SketchCacheModel" "saved" "[I") ∈ tk_tb := tk_in (List.mem_append_right _ (List.mem_of_getElem? (i := 743) (by decide +kernel))) rfl
set_option maxRecDepth 20000 in
theorem t_744 : (Jvm.Cond.fieldLink "SketchCacheModel" (16 : Nat) "SketchCacheModel" "isSaved" "[Z") ∈ tk_tb := tk_in (List.mem_append_right _ (List.mem_of_getElem? (i := 744) (by decide +kernel))) rfl
set_option maxRecDepth 20000 in
theorem t_745 : (Jvm.Cond.fieldLink "SketchCacheModel" (20 : Nat) "SketchCacheModel" "kept" "[I") ∈ tk_tb := tk_in (List.mem_append_right _ (List.mem_of_getElem? (i := 745) (by decide +kernel))) rfl
set_option maxRecDepth 20000 in
theorem t_746 : (Jvm.Cond.fieldLink "SketchCacheModel" (176 : Nat) "SketchCacheModel" "keptCount" "I") ∈ tk_tb := tk_in (List.mem_append_right _ (List.mem_of_getElem? (i := 746) (by decide +kernel))) rfl
set_option maxRecDepth 20000 in
theorem t_747 : (Jvm.Cond.fieldLink "SketchCacheModel" (23 : Nat) "SketchCacheModel" "seats" "[I") ∈ tk_tb := tk_in (List.mem_append_right _ (List.mem_of_getElem? (i := 747) (by decide +kernel))) rfl
set_option maxRecDepth 20000 in
theorem t_748 : (Jvm.Cond.fieldLink "SketchCacheModel" (26 : Nat) "SketchCacheModel" "marked" "[Z") ∈ tk_tb := tk_in (List.mem_append_right _ (List.mem_of_getElem? (i := 748) (by decide +kernel))) rfl
set_option maxRecDepth 20000 in
theorem t_749 : (Jvm.Cond.fieldLink "SketchCacheModel" (29 : Nat) "SketchCacheModel" "uses" "[I") ∈ tk_tb := tk_in (List.mem_append_right _ (List.mem_of_getElem? (i := 749) (by decide +kernel))) rfl
set_option maxRecDepth 20000 in
theorem t_750 : (Jvm.Cond.fieldLink "SketchCacheModel" (32 : Nat) "SketchCacheModel" "used" "[I") ∈ tk_tb := tk_in (List.mem_append_right _ (List.mem_of_getElem? (i := 750) (by decide +kernel))) rfl
set_option maxRecDepth 20000 in
theorem t_751 : (Jvm.Cond.fieldLink "SketchCacheModel" (35 : Nat) "SketchCacheModel" "came" "[I") ∈ tk_tb := tk_in (List.mem_append_right _ (List.mem_of_getElem? (i := 751) (by decide +kernel))) rfl
set_option maxRecDepth 20000 in
theorem t_752 : (Jvm.Cond.fieldLink "SketchCacheModel" (131 : Nat) "SketchCacheModel" "sitting" "I") ∈ tk_tb := tk_in (List.mem_append_right _ (List.mem_of_getElem? (i := 752) (by decide +kernel))) rfl
set_option maxRecDepth 20000 in
theorem t_753 : (Jvm.Cond.fieldLink "SketchCacheModel" (137 : Nat) "SketchCacheModel" "hand" "I") ∈ tk_tb := tk_in (List.mem_append_right _ (List.mem_of_getElem? (i := 753) (by decide +kernel))) rfl
set_option maxRecDepth 20000 in
theorem t_754 : (Jvm.Cond.fieldLink "SketchCacheModel" (38 : Nat) "SketchCacheModel" "four" "[I") ∈ tk_tb := tk_in (List.mem_append_right _ (List.mem_of_getElem? (i := 754) (by decide +kernel))) rfl
set_option maxRecDepth 20000 in
theorem t_755 : (Jvm.Cond.fieldLink "SketchCacheModel" (41 : Nat) "SketchCacheModel" "many" "[I") ∈ tk_tb := tk_in (List.mem_append_right _ (List.mem_of_getElem? (i := 755) (by decide +kernel))) rfl
set_option maxRecDepth 20000 in
theorem t_756 : (Jvm.Cond.fieldLink "SketchCacheModel" (151 : Nat) "SketchCacheModel" "goal" "I") ∈ tk_tb := tk_in (List.mem_append_right _ (List.mem_of_getElem? (i := 756) (by decide +kernel))) rfl
set_option maxRecDepth 20000 in
theorem t_757 : (Jvm.Cond.laysFinal "SketchCacheModel" "SketchCacheModel" "rows" "I") ∈ tk_tb := tk_in (List.mem_append_right _ (List.mem_of_getElem? (i := 757) (by decide +kernel))) rfl
set_option maxRecDepth 20000 in
theorem t_758 : (Jvm.Cond.soleField "SketchCacheModel" "rows") ∈ tk_tb := tk_in (List.mem_append_right _ (List.mem_of_getElem? (i := 758) (by decide +kernel))) rfl
set_option maxRecDepth 20000 in
theorem t_759 : (Jvm.Cond.laysFinal "SketchCacheModel" "SketchCacheModel" "capacity" "I") ∈ tk_tb := tk_in (List.mem_append_right _ (List.mem_of_getElem? (i := 759) (by decide +kernel))) rfl
set_option maxRecDepth 20000 in
theorem t_760 : (Jvm.Cond.soleField "SketchCacheModel" "capacity") ∈ tk_tb := tk_in (List.mem_append_right _ (List.mem_of_getElem? (i := 760) (by decide +kernel))) rfl
set_option maxRecDepth 20000 in
theorem t_761 : (Jvm.Cond.laysFinal "SketchCacheModel" "SketchCacheModel" "now" "[I") ∈ tk_tb := tk_in (List.mem_append_right _ (List.mem_of_getElem? (i := 761) (by decide +kernel))) rfl
set_option maxRecDepth 20000 in
theorem t_762 : (Jvm.Cond.soleField "SketchCacheModel" "now") ∈ tk_tb := tk_in (List.mem_append_right _ (List.mem_of_getElem? (i := 762) (by decide +kernel))) rfl
set_option maxRecDepth 20000 in
theorem t_763 : (Jvm.Cond.laysFinal "SketchCacheModel" "SketchCacheModel" "saved" "[I") ∈ tk_tb := tk_in (List.mem_append_right _ (List.mem_of_getElem? (i := 763) (by decide +kernel))) rfl
set_option maxRecDepth 20000 in
theorem t_764 : (Jvm.Cond.soleField "SketchCacheModel" "saved") ∈ tk_tb := tk_in (List.mem_append_right _ (List.mem_of_getElem? (i := 764) (by decide +kernel))) rfl
set_option maxRecDepth 20000 in
theorem t_765 : (Jvm.Cond.laysFinal "SketchCacheModel" "SketchCacheModel" "isSaved" "[Z") ∈ tk_tb := tk_in (List.mem_append_right _ (List.mem_of_getElem? (i := 765) (by decide +kernel))) rfl
set_option maxRecDepth 20000 in
theorem t_766 : (Jvm.Cond.soleField "SketchCacheModel" "isSaved") ∈ tk_tb := tk_in (List.mem_append_right _ (List.mem_of_getElem? (i := 766) (by decide +kernel))) rfl
set_option maxRecDepth 20000 in
theorem t_767 : (Jvm.Cond.laysFinal "SketchCacheModel" "SketchCacheModel" "kept" "[I") ∈ tk_tb := tk_in (List.mem_append_right _ (List.mem_of_getElem? (i := 767) (by decide +kernel))) rfl
set_option maxRecDepth 20000 in
theorem t_768 : (Jvm.Cond.soleField "SketchCacheModel" "kept") ∈ tk_tb := tk_in (List.mem_append_right _ (List.mem_of_getElem? (i := 768) (by decide +kernel))) rfl
set_option maxRecDepth 20000 in
theorem t_769 : (Jvm.Cond.lays "SketchCacheModel" "SketchCacheModel" "keptCount" "I") ∈ tk_tb := tk_in (List.mem_append_right _ (List.mem_of_getElem? (i := 769) (by decide +kernel))) rfl
set_option maxRecDepth 20000 in
theorem t_770 : (Jvm.Cond.soleField "SketchCacheModel" "keptCount") ∈ tk_tb := tk_in (List.mem_append_right _ (List.mem_of_getElem? (i := 770) (by decide +kernel))) rfl
set_option maxRecDepth 20000 in
theorem t_771 : (Jvm.Cond.laysFinal "SketchCacheModel" "SketchCacheModel" "seats" "[I") ∈ tk_tb := tk_in (List.mem_append_right _ (List.mem_of_getElem? (i := 771) (by decide +kernel))) rfl
set_option maxRecDepth 20000 in
theorem t_772 : (Jvm.Cond.soleField "SketchCacheModel" "seats") ∈ tk_tb := tk_in (List.mem_append_right _ (List.mem_of_getElem? (i := 772) (by decide +kernel))) rfl
set_option maxRecDepth 20000 in
theorem t_773 : (Jvm.Cond.laysFinal "SketchCacheModel" "SketchCacheModel" "marked" "[Z") ∈ tk_tb := tk_in (List.mem_append_right _ (List.mem_of_getElem? (i := 773) (by decide +kernel))) rfl
set_option maxRecDepth 20000 in
theorem t_774 : (Jvm.Cond.soleField "SketchCacheModel" "marked") ∈ tk_tb := tk_in (List.mem_append_right _ (List.mem_of_getElem? (i := 774) (by decide +kernel))) rfl
set_option maxRecDepth 20000 in
theorem t_775 : (Jvm.Cond.laysFinal "SketchCacheModel" "SketchCacheModel" "uses" "[I") ∈ tk_tb := tk_in (List.mem_append_right _ (List.mem_of_getElem? (i := 775) (by decide +kernel))) rfl
set_option maxRecDepth 20000 in
theorem t_776 : (Jvm.Cond.soleField "SketchCacheModel" "uses") ∈ tk_tb := tk_in (List.mem_append_right _ (List.mem_of_getElem? (i := 776) (by decide +kernel))) rfl
set_option maxRecDepth 20000 in
theorem t_777 : (Jvm.Cond.laysFinal "SketchCacheModel" "SketchCacheModel" "used" "[I") ∈ tk_tb := tk_in (List.mem_append_right _ (List.mem_of_getElem? (i := 777) (by decide +kernel))) rfl
set_option maxRecDepth 20000 in
theorem t_778 : (Jvm.Cond.soleField "SketchCacheModel" "used") ∈ tk_tb := tk_in (List.mem_append_right _ (List.mem_of_getElem? (i := 778) (by decide +kernel))) rfl
set_option maxRecDepth 20000 in
theorem t_779 : (Jvm.Cond.laysFinal "SketchCacheModel" "SketchCacheModel" "came" "[I") ∈ tk_tb := tk_in (List.mem_append_right _ (List.mem_of_getElem? (i := 779) (by decide +kernel))) rfl
set_option maxRecDepth 20000 in
theorem t_780 : (Jvm.Cond.soleField "SketchCacheModel" "came") ∈ tk_tb := tk_in (List.mem_append_right _ (List.mem_of_getElem? (i := 780) (by decide +kernel))) rfl
set_option maxRecDepth 20000 in
theorem t_781 : (Jvm.Cond.lays "SketchCacheModel" "SketchCacheModel" "sitting" "I") ∈ tk_tb := tk_in (List.mem_append_right _ (List.mem_of_getElem? (i := 781) (by decide +kernel))) rfl
set_option maxRecDepth 20000 in
theorem t_782 : (Jvm.Cond.soleField "SketchCacheModel" "sitting") ∈ tk_tb := tk_in (List.mem_append_right _ (List.mem_of_getElem? (i := 782) (by decide +kernel))) rfl
set_option maxRecDepth 20000 in
theorem t_783 : (Jvm.Cond.lays "SketchCacheModel" "SketchCacheModel" "hand" "I") ∈ tk_tb := tk_in (List.mem_append_right _ (List.mem_of_getElem? (i := 783) (by decide +kernel))) rfl
set_option maxRecDepth 20000 in
theorem t_784 : (Jvm.Cond.soleField "SketchCacheModel" "hand") ∈ tk_tb := tk_in (List.mem_append_right _ (List.mem_of_getElem? (i := 784) (by decide +kernel))) rfl
set_option maxRecDepth 20000 in
theorem t_785 : (Jvm.Cond.laysFinal "SketchCacheModel" "SketchCacheModel" "four" "[I") ∈ tk_tb := tk_in (List.mem_append_right _ (List.mem_of_getElem? (i := 785) (by decide +kernel))) rfl
set_option maxRecDepth 20000 in
theorem t_786 : (Jvm.Cond.soleField "SketchCacheModel" "four") ∈ tk_tb := tk_in (List.mem_append_right _ (List.mem_of_getElem? (i := 786) (by decide +kernel))) rfl
set_option maxRecDepth 20000 in
theorem t_787 : (Jvm.Cond.laysFinal "SketchCacheModel" "SketchCacheModel" "many" "[I") ∈ tk_tb := tk_in (List.mem_append_right _ (List.mem_of_getElem? (i := 787) (by decide +kernel))) rfl
set_option maxRecDepth 20000 in
theorem t_788 : (Jvm.Cond.soleField "SketchCacheModel" "many") ∈ tk_tb := tk_in (List.mem_append_right _ (List.mem_of_getElem? (i := 788) (by decide +kernel))) rfl
set_option maxRecDepth 20000 in
theorem t_789 : (Jvm.Cond.lays "SketchCacheModel" "SketchCacheModel" "goal" "I") ∈ tk_tb := tk_in (List.mem_append_right _ (List.mem_of_getElem? (i := 789) (by decide +kernel))) rfl
set_option maxRecDepth 20000 in
theorem t_790 : (Jvm.Cond.soleField "SketchCacheModel" "goal") ∈ tk_tb := tk_in (List.mem_append_right _ (List.mem_of_getElem? (i := 790) (by decide +kernel))) rfl
set_option maxRecDepth 20000 in
theorem t_791 : (Jvm.Cond.superclass "SketchCacheModel" "java/lang/Object") ∈ tk_tb := tk_in (List.mem_append_right _ (List.mem_of_getElem? (i := 791) (by decide +kernel))) rfl
set_option maxRecDepth 20000 in
theorem t_792 : (Jvm.Cond.arrayClass Jvm.ClassFile.FieldType.boolean) ∈ tk_tb := tk_in (List.mem_append_right _ (List.mem_of_getElem? (i := 792) (by decide +kernel))) rfl
set_option maxRecDepth 20000 in
theorem t_793 : (Jvm.Cond.methodLink "SketchCacheLaw" (25 : Nat) ({ cls := "SketchCacheModel", name := "place", desc := "(III)I" } : Jvm.MethodName)) ∈ tk_tb := tk_in (List.mem_append_right _ (List.mem_of_getElem? (i := 793) (by decide +kernel))) rfl
set_option maxRecDepth 20000 in
theorem t_794 : (Jvm.Cond.instanceMethod ({ cls := "SketchCacheModel", name := "place", desc := "(III)I" } : Jvm.MethodName)) ∈ tk_tb := tk_in (List.mem_append_right _ (List.mem_of_getElem? (i := 794) (by decide +kernel))) rfl
set_option maxRecDepth 20000 in
theorem t_795 : (Jvm.Cond.selects "SketchCacheModel" ({ cls := "SketchCacheModel", name := "place", desc := "(III)I" } : Jvm.MethodName) ({ cls := "SketchCacheModel", name := "place", desc := "(III)I" } : Jvm.MethodName)) ∈ tk_tb := tk_in (List.mem_append_right _ (List.mem_of_getElem? (i := 795) (by decide +kernel))) rfl
set_option maxRecDepth 20000 in
theorem t_796 : (Jvm.Cond.code ({ cls := "SketchCacheModel", name := "place", desc := "(III)I" } : Jvm.MethodName) prog_13_method_7_code (5 : Nat) (Option.some Jvm.ClassFile.FieldType.int)) ∈ tk_tb := tk_in (List.mem_append_right _ (List.mem_of_getElem? (i := 796) (rfl))) rfl
set_option maxRecDepth 20000 in
theorem t_797 : (Jvm.Cond.methodLink "SketchCacheModel" (59 : Nat) ({ cls := "SketchCacheModel", name := "in", desc := "(III)Z" } : Jvm.MethodName)) ∈ tk_tb := tk_in (List.mem_append_right _ (List.mem_of_getElem? (i := 797) (by decide +kernel))) rfl
set_option maxRecDepth 20000 in
theorem t_798 : (Jvm.Cond.static ({ cls := "SketchCacheModel", name := "in", desc := "(III)Z" } : Jvm.MethodName)) ∈ tk_tb := tk_in (List.mem_append_right _ (List.mem_of_getElem? (i := 798) (by decide +kernel))) rfl
set_option maxRecDepth 20000 in
theorem t_799 : (Jvm.Cond.code ({ cls := "SketchCacheModel", name := "in", desc := "(III)Z" } : Jvm.MethodName) prog_13_method_3_code (3 : Nat) (Option.some Jvm.ClassFile.FieldType.boolean)) ∈ tk_tb := tk_in (List.mem_append_right _ (List.mem_of_getElem? (i := 799) (rfl))) rfl
set_option maxRecDepth 20000 in
theorem t_800 : (Jvm.Cond.methodLink "SketchCacheModel" (63 : Nat) ({ cls := "SketchCacheModel", name := "isKey", desc := "(I)Z" } : Jvm.MethodName)) ∈ tk_tb := tk_in (List.mem_append_right _ (List.mem_of_getElem? (i := 800) (by decide +kernel))) rfl
set_option maxRecDepth 20000 in
theorem t_801 : (Jvm.Cond.static ({ cls := "SketchCacheModel", name := "isKey", desc := "(I)Z" } : Jvm.MethodName)) ∈ tk_tb := tk_in (List.mem_append_right _ (List.mem_of_getElem? (i := 801) (by decide +kernel))) rfl
set_option maxRecDepth 20000 in
theorem t_802 : (Jvm.Cond.code ({ cls := "SketchCacheModel", name := "isKey", desc := "(I)Z" } : Jvm.MethodName) prog_13_method_4_code (1 : Nat) (Option.some Jvm.ClassFile.FieldType.boolean)) ∈ tk_tb := tk_in (List.mem_append_right _ (List.mem_of_getElem? (i := 802) (rfl))) rfl
set_option maxRecDepth 20000 in
theorem t_803 : (Jvm.Cond.methodLink "SketchCacheModel" (67 : Nat) ({ cls := "SketchCacheModel", name := "forgetTimes", desc := "()V" } : Jvm.MethodName)) ∈ tk_tb := tk_in (List.mem_append_right _ (List.mem_of_getElem? (i := 803) (by decide +kernel))) rfl
set_option maxRecDepth 20000 in
theorem q_804 : (Jvm.Cond.privateMethod ({ cls := "SketchCacheModel", name := "forgetTimes", desc := "()V" } : Jvm.MethodName)) ∈ lw_tbl := List.mem_append_right _ (List.mem_of_getElem? (i := 804) (by decide +kernel))
set_option maxRecDepth 20000 in
theorem t_805 : (Jvm.Cond.instanceMethod ({ cls := "SketchCacheModel", name := "forgetTimes", desc := "()V" } : Jvm.MethodName)) ∈ tk_tb := tk_in (List.mem_append_right _ (List.mem_of_getElem? (i := 805) (by decide +kernel))) rfl
set_option maxRecDepth 20000 in
theorem t_806 : (Jvm.Cond.code ({ cls := "SketchCacheModel", name := "forgetTimes", desc := "()V" } : Jvm.MethodName) prog_13_method_6_code (2 : Nat) (Option.none : Option Jvm.ClassFile.FieldType)) ∈ tk_tb := tk_in (List.mem_append_right _ (List.mem_of_getElem? (i := 806) (rfl))) rfl
set_option maxRecDepth 20000 in
theorem t_807 : (Jvm.Cond.methodLink "SketchCacheLaw" (29 : Nat) ({ cls := "SketchCacheModel", name := "door", desc := "(III)I" } : Jvm.MethodName)) ∈ tk_tb := tk_in (List.mem_append_right _ (List.mem_of_getElem? (i := 807) (by decide +kernel))) rfl
set_option maxRecDepth 20000 in
theorem t_808 : (Jvm.Cond.instanceMethod ({ cls := "SketchCacheModel", name := "door", desc := "(III)I" } : Jvm.MethodName)) ∈ tk_tb := tk_in (List.mem_append_right _ (List.mem_of_getElem? (i := 808) (by decide +kernel))) rfl
set_option maxRecDepth 20000 in
theorem t_809 : (Jvm.Cond.selects "SketchCacheModel" ({ cls := "SketchCacheModel", name := "door", desc := "(III)I" } : Jvm.MethodName) ({ cls := "SketchCacheModel", name := "door", desc := "(III)I" } : Jvm.MethodName)) ∈ tk_tb := tk_in (List.mem_append_right _ (List.mem_of_getElem? (i := 809) (by decide +kernel))) rfl
set_option maxRecDepth 20000 in
theorem t_810 : (Jvm.Cond.code ({ cls := "SketchCacheModel", name := "door", desc := "(III)I" } : Jvm.MethodName) prog_13_method_8_code (5 : Nat) (Option.some Jvm.ClassFile.FieldType.int)) ∈ tk_tb := tk_in (List.mem_append_right _ (List.mem_of_getElem? (i := 810) (rfl))) rfl
set_option maxRecDepth 20000 in
theorem t_811 : (Jvm.Cond.methodLink "SketchCacheLaw" (34 : Nat) ({ cls := "SketchCacheModel", name := "rule", desc := "(II)I" } : Jvm.MethodName)) ∈ tk_tb := tk_in (List.mem_append_right _ (List.mem_of_getElem? (i := 811) (by decide +kernel))) rfl
set_option maxRecDepth 20000 in
theorem t_812 : (Jvm.Cond.instanceMethod ({ cls := "SketchCacheModel", name := "rule", desc := "(II)I" } : Jvm.MethodName)) ∈ tk_tb := tk_in (List.mem_append_right _ (List.mem_of_getElem? (i := 812) (by decide +kernel))) rfl
set_option maxRecDepth 20000 in
theorem t_813 : (Jvm.Cond.selects "SketchCacheModel" ({ cls := "SketchCacheModel", name := "rule", desc := "(II)I" } : Jvm.MethodName) ({ cls := "SketchCacheModel", name := "rule", desc := "(II)I" } : Jvm.MethodName)) ∈ tk_tb := tk_in (List.mem_append_right _ (List.mem_of_getElem? (i := 813) (by decide +kernel))) rfl
set_option maxRecDepth 20000 in
theorem t_814 : (Jvm.Cond.code ({ cls := "SketchCacheModel", name := "rule", desc := "(II)I" } : Jvm.MethodName) prog_13_method_9_code (5 : Nat) (Option.some Jvm.ClassFile.FieldType.int)) ∈ tk_tb := tk_in (List.mem_append_right _ (List.mem_of_getElem? (i := 814) (rfl))) rfl
set_option maxRecDepth 20000 in
theorem t_815 : (Jvm.Cond.methodLink "SketchCacheLaw" (38 : Nat) ({ cls := "SketchCacheModel", name := "size", desc := "(II)I" } : Jvm.MethodName)) ∈ tk_tb := tk_in (List.mem_append_right _ (List.mem_of_getElem? (i := 815) (by decide +kernel))) rfl
set_option maxRecDepth 20000 in
theorem t_816 : (Jvm.Cond.instanceMethod ({ cls := "SketchCacheModel", name := "size", desc := "(II)I" } : Jvm.MethodName)) ∈ tk_tb := tk_in (List.mem_append_right _ (List.mem_of_getElem? (i := 816) (by decide +kernel))) rfl
set_option maxRecDepth 20000 in
theorem t_817 : (Jvm.Cond.selects "SketchCacheModel" ({ cls := "SketchCacheModel", name := "size", desc := "(II)I" } : Jvm.MethodName) ({ cls := "SketchCacheModel", name := "size", desc := "(II)I" } : Jvm.MethodName)) ∈ tk_tb := tk_in (List.mem_append_right _ (List.mem_of_getElem? (i := 817) (by decide +kernel))) rfl
set_option maxRecDepth 20000 in
theorem t_818 : (Jvm.Cond.code ({ cls := "SketchCacheModel", name := "size", desc := "(II)I" } : Jvm.MethodName) prog_13_method_10_code (4 : Nat) (Option.some Jvm.ClassFile.FieldType.int)) ∈ tk_tb := tk_in (List.mem_append_right _ (List.mem_of_getElem? (i := 818) (rfl))) rfl
set_option maxRecDepth 20000 in
theorem t_819 : (Jvm.Cond.methodLink "SketchCacheModel" (70 : Nat) ({ cls := "SketchCacheModel", name := "partOf", desc := "(I)I" } : Jvm.MethodName)) ∈ tk_tb := tk_in (List.mem_append_right _ (List.mem_of_getElem? (i := 819) (by decide +kernel))) rfl
set_option maxRecDepth 20000 in
theorem q_820 : (Jvm.Cond.privateMethod ({ cls := "SketchCacheModel", name := "partOf", desc := "(I)I" } : Jvm.MethodName)) ∈ lw_tbl := List.mem_append_right _ (List.mem_of_getElem? (i := 820) (by decide +kernel))
set_option maxRecDepth 20000 in
theorem t_821 : (Jvm.Cond.instanceMethod ({ cls := "SketchCacheModel", name := "partOf", desc := "(I)I" } : Jvm.MethodName)) ∈ tk_tb := tk_in (List.mem_append_right _ (List.mem_of_getElem? (i := 821) (by decide +kernel))) rfl
set_option maxRecDepth 20000 in
theorem t_822 : (Jvm.Cond.code ({ cls := "SketchCacheModel", name := "partOf", desc := "(I)I" } : Jvm.MethodName) prog_13_method_19_code (3 : Nat) (Option.some Jvm.ClassFile.FieldType.int)) ∈ tk_tb := tk_in (List.mem_append_right _ (List.mem_of_getElem? (i := 822) (rfl))) rfl
set_option maxRecDepth 20000 in
theorem t_823 : (Jvm.Cond.methodLink "SketchCacheModel" (90 : Nat) ({ cls := "SketchCacheModel", name := "indexOf", desc := "(II)I" } : Jvm.MethodName)) ∈ tk_tb := tk_in (List.mem_append_right _ (List.mem_of_getElem? (i := 823) (by decide +kernel))) rfl
set_option maxRecDepth 20000 in
theorem q_824 : (Jvm.Cond.privateMethod ({ cls := "SketchCacheModel", name := "indexOf", desc := "(II)I" } : Jvm.MethodName)) ∈ lw_tbl := List.mem_append_right _ (List.mem_of_getElem? (i := 824) (by decide +kernel))
set_option maxRecDepth 20000 in
theorem t_825 : (Jvm.Cond.instanceMethod ({ cls := "SketchCacheModel", name := "indexOf", desc := "(II)I" } : Jvm.MethodName)) ∈ tk_tb := tk_in (List.mem_append_right _ (List.mem_of_getElem? (i := 825) (by decide +kernel))) rfl
set_option maxRecDepth 20000 in
theorem t_826 : (Jvm.Cond.code ({ cls := "SketchCacheModel", name := "indexOf", desc := "(II)I" } : Jvm.MethodName) prog_13_method_18_code (4 : Nat) (Option.some Jvm.ClassFile.FieldType.int)) ∈ tk_tb := tk_in (List.mem_append_right _ (List.mem_of_getElem? (i := 826) (rfl))) rfl
set_option maxRecDepth 20000 in
theorem t_827 : (Jvm.Cond.methodLink "SketchCacheModel" (84 : Nat) ({ cls := "SketchCacheModel", name := "length", desc := "(I)I" } : Jvm.MethodName)) ∈ tk_tb := tk_in (List.mem_append_right _ (List.mem_of_getElem? (i := 827) (by decide +kernel))) rfl
set_option maxRecDepth 20000 in
theorem q_828 : (Jvm.Cond.privateMethod ({ cls := "SketchCacheModel", name := "length", desc := "(I)I" } : Jvm.MethodName)) ∈ lw_tbl := List.mem_append_right _ (List.mem_of_getElem? (i := 828) (by decide +kernel))
set_option maxRecDepth 20000 in
theorem t_829 : (Jvm.Cond.instanceMethod ({ cls := "SketchCacheModel", name := "length", desc := "(I)I" } : Jvm.MethodName)) ∈ tk_tb := tk_in (List.mem_append_right _ (List.mem_of_getElem? (i := 829) (by decide +kernel))) rfl
set_option maxRecDepth 20000 in
theorem t_830 : (Jvm.Cond.code ({ cls := "SketchCacheModel", name := "length", desc := "(I)I" } : Jvm.MethodName) prog_13_method_16_code (2 : Nat) (Option.some Jvm.ClassFile.FieldType.int)) ∈ tk_tb := tk_in (List.mem_append_right _ (List.mem_of_getElem? (i := 830) (rfl))) rfl
set_option maxRecDepth 20000 in
theorem t_831 : (Jvm.Cond.methodLink "SketchCacheModel" (87 : Nat) ({ cls := "SketchCacheModel", name := "keyAt", desc := "(II)I" } : Jvm.MethodName)) ∈ tk_tb := tk_in (List.mem_append_right _ (List.mem_of_getElem? (i := 831) (by decide +kernel))) rfl
set_option maxRecDepth 20000 in
theorem q_832 : (Jvm.Cond.privateMethod ({ cls := "SketchCacheModel", name := "keyAt", desc := "(II)I" } : Jvm.MethodName)) ∈ lw_tbl := List.mem_append_right _ (List.mem_of_getElem? (i := 832) (by decide +kernel))
set_option maxRecDepth 20000 in
theorem t_833 : (Jvm.Cond.instanceMethod ({ cls := "SketchCacheModel", name := "keyAt", desc := "(II)I" } : Jvm.MethodName)) ∈ tk_tb := tk_in (List.mem_append_right _ (List.mem_of_getElem? (i := 833) (by decide +kernel))) rfl
set_option maxRecDepth 20000 in
theorem t_834 : (Jvm.Cond.code ({ cls := "SketchCacheModel", name := "keyAt", desc := "(II)I" } : Jvm.MethodName) prog_13_method_17_code (3 : Nat) (Option.some Jvm.ClassFile.FieldType.int)) ∈ tk_tb := tk_in (List.mem_append_right _ (List.mem_of_getElem? (i := 834) (rfl))) rfl
set_option maxRecDepth 20000 in
theorem t_835 : (Jvm.Cond.methodLink "SketchCacheLaw" (43 : Nat) ({ cls := "SketchCacheModel", name := "access", desc := "(I)I" } : Jvm.MethodName)) ∈ tk_tb := tk_in (List.mem_append_right _ (List.mem_of_getElem? (i := 835) (by decide +kernel))) rfl
set_option maxRecDepth 20000 in
theorem t_836 : (Jvm.Cond.instanceMethod ({ cls := "SketchCacheModel", name := "access", desc := "(I)I" } : Jvm.MethodName)) ∈ tk_tb := tk_in (List.mem_append_right _ (List.mem_of_getElem? (i := 836) (by decide +kernel))) rfl
set_option maxRecDepth 20000 in
theorem t_837 : (Jvm.Cond.selects "SketchCacheModel" ({ cls := "SketchCacheModel", name := "access", desc := "(I)I" } : Jvm.MethodName) ({ cls := "SketchCacheModel", name := "access", desc := "(I)I" } : Jvm.MethodName)) ∈ tk_tb := tk_in (List.mem_append_right _ (List.mem_of_getElem? (i := 837) (by decide +kernel))) rfl
set_option maxRecDepth 20000 in
theorem t_838 : (Jvm.Cond.code ({ cls := "SketchCacheModel", name := "access", desc := "(I)I" } : Jvm.MethodName) prog_13_method_30_code (2 : Nat) (Option.some Jvm.ClassFile.FieldType.int)) ∈ tk_tb := tk_in (List.mem_append_right _ (List.mem_of_getElem? (i := 838) (rfl))) rfl
set_option maxRecDepth 20000 in
theorem t_839 : (Jvm.Cond.methodLink "SketchCacheModel" (128 : Nat) ({ cls := "SketchCacheModel", name := "accessed", desc := "(I)I" } : Jvm.MethodName)) ∈ tk_tb := tk_in (List.mem_append_right _ (List.mem_of_getElem? (i := 839) (by decide +kernel))) rfl
set_option maxRecDepth 20000 in
theorem q_840 : (Jvm.Cond.privateMethod ({ cls := "SketchCacheModel", name := "accessed", desc := "(I)I" } : Jvm.MethodName)) ∈ lw_tbl := List.mem_append_right _ (List.mem_of_getElem? (i := 840) (by decide +kernel))
set_option maxRecDepth 20000 in
theorem t_841 : (Jvm.Cond.instanceMethod ({ cls := "SketchCacheModel", name := "accessed", desc := "(I)I" } : Jvm.MethodName)) ∈ tk_tb := tk_in (List.mem_append_right _ (List.mem_of_getElem? (i := 841) (by decide +kernel))) rfl
set_option maxRecDepth 20000 in
theorem t_842 : (Jvm.Cond.code ({ cls := "SketchCacheModel", name := "accessed", desc := "(I)I" } : Jvm.MethodName) prog_13_method_28_code (4 : Nat) (Option.some Jvm.ClassFile.FieldType.int)) ∈ tk_tb := tk_in (List.mem_append_right _ (List.mem_of_getElem? (i := 842) (rfl))) rfl
set_option maxRecDepth 20000 in
theorem t_843 : (Jvm.Cond.methodLink "SketchCacheModel" (116 : Nat) ({ cls := "SketchCacheModel", name := "count", desc := "(I)V" } : Jvm.MethodName)) ∈ tk_tb := tk_in (List.mem_append_right _ (List.mem_of_getElem? (i := 843) (by decide +kernel))) rfl
set_option maxRecDepth 20000 in
theorem q_844 : (Jvm.Cond.privateMethod ({ cls := "SketchCacheModel", name := "count", desc := "(I)V" } : Jvm.MethodName)) ∈ lw_tbl := List.mem_append_right _ (List.mem_of_getElem? (i := 844) (by decide +kernel))
set_option maxRecDepth 20000 in
theorem t_845 : (Jvm.Cond.instanceMethod ({ cls := "SketchCacheModel", name := "count", desc := "(I)V" } : Jvm.MethodName)) ∈ tk_tb := tk_in (List.mem_append_right _ (List.mem_of_getElem? (i := 845) (by decide +kernel))) rfl
set_option maxRecDepth 20000 in
theorem t_846 : (Jvm.Cond.code ({ cls := "SketchCacheModel", name := "count", desc := "(I)V" } : Jvm.MethodName) prog_13_method_15_code (5 : Nat) (Option.none : Option Jvm.ClassFile.FieldType)) ∈ tk_tb := tk_in (List.mem_append_right _ (List.mem_of_getElem? (i := 846) (rfl))) rfl
set_option maxRecDepth 20000 in
theorem t_847 : (Jvm.Cond.methodLink "SketchCacheModel" (81 : Nat) ({ cls := "SketchCacheModel", name := "isThrough", desc := "(I)Z" } : Jvm.MethodName)) ∈ tk_tb := tk_in (List.mem_append_right _ (List.mem_of_getElem? (i := 847) (by decide +kernel))) rfl
set_option maxRecDepth 20000 in
theorem q_848 : (Jvm.Cond.privateMethod ({ cls := "SketchCacheModel", name := "isThrough", desc := "(I)Z" } : Jvm.MethodName)) ∈ lw_tbl := List.mem_append_right _ (List.mem_of_getElem? (i := 848) (by decide +kernel))
set_option maxRecDepth 20000 in
theorem t_849 : (Jvm.Cond.instanceMethod ({ cls := "SketchCacheModel", name := "isThrough", desc := "(I)Z" } : Jvm.MethodName)) ∈ tk_tb := tk_in (List.mem_append_right _ (List.mem_of_getElem? (i := 849) (by decide +kernel))) rfl
set_option maxRecDepth 20000 in
theorem t_850 : (Jvm.Cond.code ({ cls := "SketchCacheModel", name := "isThrough", desc := "(I)Z" } : Jvm.MethodName) prog_13_method_12_code (2 : Nat) (Option.some Jvm.ClassFile.FieldType.boolean)) ∈ tk_tb := tk_in (List.mem_append_right _ (List.mem_of_getElem? (i := 850) (rfl))) rfl
set_option maxRecDepth 20000 in
theorem t_851 : (Jvm.Cond.methodLink "SketchCacheModel" (78 : Nat) ({ cls := "SketchCacheModel", name := "smallest", desc := "(I)I" } : Jvm.MethodName)) ∈ tk_tb := tk_in (List.mem_append_right _ (List.mem_of_getElem? (i := 851) (by decide +kernel))) rfl
set_option maxRecDepth 20000 in
theorem q_852 : (Jvm.Cond.privateMethod ({ cls := "SketchCacheModel", name := "smallest", desc := "(I)I" } : Jvm.MethodName)) ∈ lw_tbl := List.mem_append_right _ (List.mem_of_getElem? (i := 852) (by decide +kernel))
set_option maxRecDepth 20000 in
theorem t_853 : (Jvm.Cond.instanceMethod ({ cls := "SketchCacheModel", name := "smallest", desc := "(I)I" } : Jvm.MethodName)) ∈ tk_tb := tk_in (List.mem_append_right _ (List.mem_of_getElem? (i := 853) (by decide +kernel))) rfl
set_option maxRecDepth 20000 in
theorem t_854 : (Jvm.Cond.code ({ cls := "SketchCacheModel", name := "smallest", desc := "(I)I" } : Jvm.MethodName) prog_13_method_13_code (4 : Nat) (Option.some Jvm.ClassFile.FieldType.int)) ∈ tk_tb := tk_in (List.mem_append_right _ (List.mem_of_getElem? (i := 854) (rfl))) rfl
set_option maxRecDepth 20000 in
theorem t_855 : (Jvm.Cond.methodLink "SketchCacheModel" (74 : Nat) ({ cls := "SketchCacheModel", name := "cell", desc := "(II)I" } : Jvm.MethodName)) ∈ tk_tb := tk_in (List.mem_append_right _ (List.mem_of_getElem? (i := 855) (by decide +kernel))) rfl
set_option maxRecDepth 20000 in
theorem q_856 : (Jvm.Cond.privateMethod ({ cls := "SketchCacheModel", name := "cell", desc := "(II)I" } : Jvm.MethodName)) ∈ lw_tbl := List.mem_append_right _ (List.mem_of_getElem? (i := 856) (by decide +kernel))
set_option maxRecDepth 20000 in
theorem t_857 : (Jvm.Cond.instanceMethod ({ cls := "SketchCacheModel", name := "cell", desc := "(II)I" } : Jvm.MethodName)) ∈ tk_tb := tk_in (List.mem_append_right _ (List.mem_of_getElem? (i := 857) (by decide +kernel))) rfl
set_option maxRecDepth 20000 in
theorem t_858 : (Jvm.Cond.code ({ cls := "SketchCacheModel", name := "cell", desc := "(II)I" } : Jvm.MethodName) prog_13_method_11_code (3 : Nat) (Option.some Jvm.ClassFile.FieldType.int)) ∈ tk_tb := tk_in (List.mem_append_right _ (List.mem_of_getElem? (i := 858) (rfl))) rfl
set_option maxRecDepth 20000 in
theorem t_859 : (Jvm.Cond.methodLink "SketchCacheModel" (96 : Nat) ({ cls := "SketchCacheModel", name := "take", desc := "(II)I" } : Jvm.MethodName)) ∈ tk_tb := tk_in (List.mem_append_right _ (List.mem_of_getElem? (i := 859) (by decide +kernel))) rfl
set_option maxRecDepth 20000 in
theorem q_860 : (Jvm.Cond.privateMethod ({ cls := "SketchCacheModel", name := "take", desc := "(II)I" } : Jvm.MethodName)) ∈ lw_tbl := List.mem_append_right _ (List.mem_of_getElem? (i := 860) (by decide +kernel))
set_option maxRecDepth 20000 in
theorem t_861 : (Jvm.Cond.instanceMethod ({ cls := "SketchCacheModel", name := "take", desc := "(II)I" } : Jvm.MethodName)) ∈ tk_tb := tk_in (List.mem_append_right _ (List.mem_of_getElem? (i := 861) (by decide +kernel))) rfl
set_option maxRecDepth 20000 in
theorem t_862 : (Jvm.Cond.code ({ cls := "SketchCacheModel", name := "take", desc := "(II)I" } : Jvm.MethodName) prog_13_method_23_code (5 : Nat) (Option.some Jvm.ClassFile.FieldType.int)) ∈ tk_tb := tk_in (List.mem_append_right _ (List.mem_of_getElem? (i := 862) (rfl))) rfl
set_option maxRecDepth 20000 in
theorem t_863 : (Jvm.Cond.methodLink "SketchCacheModel" (99 : Nat) ({ cls := "SketchCacheModel", name := "append", desc := "(II)V" } : Jvm.MethodName)) ∈ tk_tb := tk_in (List.mem_append_right _ (List.mem_of_getElem? (i := 863) (by decide +kernel))) rfl
set_option maxRecDepth 20000 in
theorem q_864 : (Jvm.Cond.privateMethod ({ cls := "SketchCacheModel", name := "append", desc := "(II)V" } : Jvm.MethodName)) ∈ lw_tbl := List.mem_append_right _ (List.mem_of_getElem? (i := 864) (by decide +kernel))
set_option maxRecDepth 20000 in
theorem t_865 : (Jvm.Cond.instanceMethod ({ cls := "SketchCacheModel", name := "append", desc := "(II)V" } : Jvm.MethodName)) ∈ tk_tb := tk_in (List.mem_append_right _ (List.mem_of_getElem? (i := 865) (by decide +kernel))) rfl
set_option maxRecDepth 20000 in
theorem t_866 : (Jvm.Cond.code ({ cls := "SketchCacheModel", name := "append", desc := "(II)V" } : Jvm.MethodName) prog_13_method_22_code (3 : Nat) (Option.none : Option Jvm.ClassFile.FieldType)) ∈ tk_tb := tk_in (List.mem_append_right _ (List.mem_of_getElem? (i := 866) (rfl))) rfl
set_option maxRecDepth 20000 in
theorem t_867 : (Jvm.Cond.methodLink "SketchCacheModel" (119 : Nat) ({ cls := "SketchCacheModel", name := "settle", desc := "()V" } : Jvm.MethodName)) ∈ tk_tb := tk_in (List.mem_append_right _ (List.mem_of_getElem? (i := 867) (by decide +kernel))) rfl
set_option maxRecDepth 20000 in
theorem q_868 : (Jvm.Cond.privateMethod ({ cls := "SketchCacheModel", name := "settle", desc := "()V" } : Jvm.MethodName)) ∈ lw_tbl := List.mem_append_right _ (List.mem_of_getElem? (i := 868) (by decide +kernel))
set_option maxRecDepth 20000 in
theorem t_869 : (Jvm.Cond.instanceMethod ({ cls := "SketchCacheModel", name := "settle", desc := "()V" } : Jvm.MethodName)) ∈ tk_tb := tk_in (List.mem_append_right _ (List.mem_of_getElem? (i := 869) (by decide +kernel))) rfl
set_option maxRecDepth 20000 in
theorem t_870 : (Jvm.Cond.code ({ cls := "SketchCacheModel", name := "settle", desc := "()V" } : Jvm.MethodName) prog_13_method_24_code (1 : Nat) (Option.none : Option Jvm.ClassFile.FieldType)) ∈ tk_tb := tk_in (List.mem_append_right _ (List.mem_of_getElem? (i := 870) (rfl))) rfl
set_option maxRecDepth 20000 in
theorem t_871 : (Jvm.Cond.methodLink "SketchCacheModel" (93 : Nat) ({ cls := "SketchCacheModel", name := "units", desc := "(I)I" } : Jvm.MethodName)) ∈ tk_tb := tk_in (List.mem_append_right _ (List.mem_of_getElem? (i := 871) (by decide +kernel))) rfl
set_option maxRecDepth 20000 in
theorem q_872 : (Jvm.Cond.privateMethod ({ cls := "SketchCacheModel", name := "units", desc := "(I)I" } : Jvm.MethodName)) ∈ lw_tbl := List.mem_append_right _ (List.mem_of_getElem? (i := 872) (by decide +kernel))
set_option maxRecDepth 20000 in
theorem t_873 : (Jvm.Cond.instanceMethod ({ cls := "SketchCacheModel", name := "units", desc := "(I)I" } : Jvm.MethodName)) ∈ tk_tb := tk_in (List.mem_append_right _ (List.mem_of_getElem? (i := 873) (by decide +kernel))) rfl
set_option maxRecDepth 20000 in
theorem t_874 : (Jvm.Cond.code ({ cls := "SketchCacheModel", name := "units", desc := "(I)I" } : Jvm.MethodName) prog_13_method_20_code (4 : Nat) (Option.some Jvm.ClassFile.FieldType.int)) ∈ tk_tb := tk_in (List.mem_append_right _ (List.mem_of_getElem? (i := 874) (rfl))) rfl
set_option maxRecDepth 20000 in
theorem t_875 : (Jvm.Cond.methodLink "SketchCacheModel" (103 : Nat) ({ cls := "SketchCacheModel", name := "candidate", desc := "(I)V" } : Jvm.MethodName)) ∈ tk_tb := tk_in (List.mem_append_right _ (List.mem_of_getElem? (i := 875) (by decide +kernel))) rfl
set_option maxRecDepth 20000 in
theorem q_876 : (Jvm.Cond.privateMethod ({ cls := "SketchCacheModel", name := "candidate", desc := "(I)V" } : Jvm.MethodName)) ∈ lw_tbl := List.mem_append_right _ (List.mem_of_getElem? (i := 876) (by decide +kernel))
set_option maxRecDepth 20000 in
theorem t_877 : (Jvm.Cond.instanceMethod ({ cls := "SketchCacheModel", name := "candidate", desc := "(I)V" } : Jvm.MethodName)) ∈ tk_tb := tk_in (List.mem_append_right _ (List.mem_of_getElem? (i := 877) (by decide +kernel))) rfl
set_option maxRecDepth 20000 in
theorem t_878 : (Jvm.Cond.code ({ cls := "SketchCacheModel", name := "candidate", desc := "(I)V" } : Jvm.MethodName) prog_13_method_26_code (7 : Nat) (Option.none : Option Jvm.ClassFile.FieldType)) ∈ tk_tb := tk_in (List.mem_append_right _ (List.mem_of_getElem? (i := 878) (rfl))) rfl
set_option maxRecDepth 20000 in
theorem t_879 : (Jvm.Cond.methodLink "SketchCacheModel" (106 : Nat) ({ cls := "SketchCacheModel", name := "inMain", desc := "()I" } : Jvm.MethodName)) ∈ tk_tb := tk_in (List.mem_append_right _ (List.mem_of_getElem? (i := 879) (by decide +kernel))) rfl
set_option maxRecDepth 20000 in
theorem q_880 : (Jvm.Cond.privateMethod ({ cls := "SketchCacheModel", name := "inMain", desc := "()I" } : Jvm.MethodName)) ∈ lw_tbl := List.mem_append_right _ (List.mem_of_getElem? (i := 880) (by decide +kernel))
set_option maxRecDepth 20000 in
theorem t_881 : (Jvm.Cond.instanceMethod ({ cls := "SketchCacheModel", name := "inMain", desc := "()I" } : Jvm.MethodName)) ∈ tk_tb := tk_in (List.mem_append_right _ (List.mem_of_getElem? (i := 881) (by decide +kernel))) rfl
set_option maxRecDepth 20000 in
theorem t_882 : (Jvm.Cond.code ({ cls := "SketchCacheModel", name := "inMain", desc := "()I" } : Jvm.MethodName) prog_13_method_21_code (1 : Nat) (Option.some Jvm.ClassFile.FieldType.int)) ∈ tk_tb := tk_in (List.mem_append_right _ (List.mem_of_getElem? (i := 882) (rfl))) rfl
set_option maxRecDepth 20000 in
theorem t_883 : (Jvm.Cond.methodLink "SketchCacheModel" (110 : Nat) ({ cls := "SketchCacheModel", name := "together", desc := "(II)V" } : Jvm.MethodName)) ∈ tk_tb := tk_in (List.mem_append_right _ (List.mem_of_getElem? (i := 883) (by decide +kernel))) rfl
set_option maxRecDepth 20000 in
theorem q_884 : (Jvm.Cond.privateMethod ({ cls := "SketchCacheModel", name := "together", desc := "(II)V" } : Jvm.MethodName)) ∈ lw_tbl := List.mem_append_right _ (List.mem_of_getElem? (i := 884) (by decide +kernel))
set_option maxRecDepth 20000 in
theorem t_885 : (Jvm.Cond.instanceMethod ({ cls := "SketchCacheModel", name := "together", desc := "(II)V" } : Jvm.MethodName)) ∈ tk_tb := tk_in (List.mem_append_right _ (List.mem_of_getElem? (i := 885) (by decide +kernel))) rfl
set_option maxRecDepth 20000 in
theorem t_886 : (Jvm.Cond.code ({ cls := "SketchCacheModel", name := "together", desc := "(II)V" } : Jvm.MethodName) prog_13_method_27_code (11 : Nat) (Option.none : Option Jvm.ClassFile.FieldType)) ∈ tk_tb := tk_in (List.mem_append_right _ (List.mem_of_getElem? (i := 886) (rfl))) rfl
set_option maxRecDepth 20000 in
theorem t_887 : (Jvm.Cond.methodLink "SketchCacheModel" (113 : Nat) ({ cls := "SketchCacheModel", name := "estimated", desc := "(I)I" } : Jvm.MethodName)) ∈ tk_tb := tk_in (List.mem_append_right _ (List.mem_of_getElem? (i := 887) (by decide +kernel))) rfl
set_option maxRecDepth 20000 in
theorem q_888 : (Jvm.Cond.privateMethod ({ cls := "SketchCacheModel", name := "estimated", desc := "(I)I" } : Jvm.MethodName)) ∈ lw_tbl := List.mem_append_right _ (List.mem_of_getElem? (i := 888) (by decide +kernel))
set_option maxRecDepth 20000 in
theorem t_889 : (Jvm.Cond.instanceMethod ({ cls := "SketchCacheModel", name := "estimated", desc := "(I)I" } : Jvm.MethodName)) ∈ tk_tb := tk_in (List.mem_append_right _ (List.mem_of_getElem? (i := 889) (by decide +kernel))) rfl
set_option maxRecDepth 20000 in
theorem t_890 : (Jvm.Cond.code ({ cls := "SketchCacheModel", name := "estimated", desc := "(I)I" } : Jvm.MethodName) prog_13_method_14_code (2 : Nat) (Option.some Jvm.ClassFile.FieldType.int)) ∈ tk_tb := tk_in (List.mem_append_right _ (List.mem_of_getElem? (i := 890) (rfl))) rfl
set_option maxRecDepth 20000 in
theorem t_891 : (Jvm.Cond.methodLink "SketchCacheModel" (122 : Nat) ({ cls := "SketchCacheModel", name := "overflow", desc := "()V" } : Jvm.MethodName)) ∈ tk_tb := tk_in (List.mem_append_right _ (List.mem_of_getElem? (i := 891) (by decide +kernel))) rfl
set_option maxRecDepth 20000 in
theorem q_892 : (Jvm.Cond.privateMethod ({ cls := "SketchCacheModel", name := "overflow", desc := "()V" } : Jvm.MethodName)) ∈ lw_tbl := List.mem_append_right _ (List.mem_of_getElem? (i := 892) (by decide +kernel))
set_option maxRecDepth 20000 in
theorem t_893 : (Jvm.Cond.instanceMethod ({ cls := "SketchCacheModel", name := "overflow", desc := "()V" } : Jvm.MethodName)) ∈ tk_tb := tk_in (List.mem_append_right _ (List.mem_of_getElem? (i := 893) (by decide +kernel))) rfl
set_option maxRecDepth 20000 in
theorem t_894 : (Jvm.Cond.code ({ cls := "SketchCacheModel", name := "overflow", desc := "()V" } : Jvm.MethodName) prog_13_method_25_code (1 : Nat) (Option.none : Option Jvm.ClassFile.FieldType)) ∈ tk_tb := tk_in (List.mem_append_right _ (List.mem_of_getElem? (i := 894) (rfl))) rfl
set_option maxRecDepth 20000 in
theorem t_895 : (Jvm.Cond.methodLink "SketchCacheModel" (125 : Nat) ({ cls := "SketchCacheModel", name := "climb", desc := "()V" } : Jvm.MethodName)) ∈ tk_tb := tk_in (List.mem_append_right _ (List.mem_of_getElem? (i := 895) (by decide +kernel))) rfl
set_option maxRecDepth 20000 in
theorem q_896 : (Jvm.Cond.privateMethod ({ cls := "SketchCacheModel", name := "climb", desc := "()V" } : Jvm.MethodName)) ∈ lw_tbl := List.mem_append_right _ (List.mem_of_getElem? (i := 896) (by decide +kernel))
set_option maxRecDepth 20000 in
theorem t_897 : (Jvm.Cond.instanceMethod ({ cls := "SketchCacheModel", name := "climb", desc := "()V" } : Jvm.MethodName)) ∈ tk_tb := tk_in (List.mem_append_right _ (List.mem_of_getElem? (i := 897) (by decide +kernel))) rfl
set_option maxRecDepth 20000 in
theorem t_898 : (Jvm.Cond.code ({ cls := "SketchCacheModel", name := "climb", desc := "()V" } : Jvm.MethodName) prog_13_method_29_code (1 : Nat) (Option.none : Option Jvm.ClassFile.FieldType)) ∈ tk_tb := tk_in (List.mem_append_right _ (List.mem_of_getElem? (i := 898) (rfl))) rfl
set_option maxRecDepth 20000 in
theorem t_899 : (Jvm.Cond.methodLink "SketchCacheLaw" (47 : Nat) ({ cls := "SketchCacheModel", name := "run", desc := "(III)I" } : Jvm.MethodName)) ∈ tk_tb := tk_in (List.mem_append_right _ (List.mem_of_getElem? (i := 899) (by decide +kernel))) rfl
set_option maxRecDepth 20000 in
theorem t_900 : (Jvm.Cond.instanceMethod ({ cls := "SketchCacheModel", name := "run", desc := "(III)I" } : Jvm.MethodName)) ∈ tk_tb := tk_in (List.mem_append_right _ (List.mem_of_getElem? (i := 900) (by decide +kernel))) rfl
set_option maxRecDepth 20000 in
theorem t_901 : (Jvm.Cond.selects "SketchCacheModel" ({ cls := "SketchCacheModel", name := "run", desc := "(III)I" } : Jvm.MethodName) ({ cls := "SketchCacheModel", name := "run", desc := "(III)I" } : Jvm.MethodName)) ∈ tk_tb := tk_in (List.mem_append_right _ (List.mem_of_getElem? (i := 901) (by decide +kernel))) rfl
set_option maxRecDepth 20000 in
theorem t_902 : (Jvm.Cond.code ({ cls := "SketchCacheModel", name := "run", desc := "(III)I" } : Jvm.MethodName) prog_13_method_31_code (7 : Nat) (Option.some Jvm.ClassFile.FieldType.int)) ∈ tk_tb := tk_in (List.mem_append_right _ (List.mem_of_getElem? (i := 902) (rfl))) rfl
set_option maxRecDepth 20000 in
theorem t_903 : (Jvm.Cond.methodLink "SketchCacheLaw" (51 : Nat) ({ cls := "SketchCacheModel", name := "add", desc := "(I)I" } : Jvm.MethodName)) ∈ tk_tb := tk_in (List.mem_append_right _ (List.mem_of_getElem? (i := 903) (by decide +kernel))) rfl
set_option maxRecDepth 20000 in
theorem t_904 : (Jvm.Cond.instanceMethod ({ cls := "SketchCacheModel", name := "add", desc := "(I)I" } : Jvm.MethodName)) ∈ tk_tb := tk_in (List.mem_append_right _ (List.mem_of_getElem? (i := 904) (by decide +kernel))) rfl
set_option maxRecDepth 20000 in
theorem t_905 : (Jvm.Cond.selects "SketchCacheModel" ({ cls := "SketchCacheModel", name := "add", desc := "(I)I" } : Jvm.MethodName) ({ cls := "SketchCacheModel", name := "add", desc := "(I)I" } : Jvm.MethodName)) ∈ tk_tb := tk_in (List.mem_append_right _ (List.mem_of_getElem? (i := 905) (by decide +kernel))) rfl
set_option maxRecDepth 20000 in
theorem t_906 : (Jvm.Cond.code ({ cls := "SketchCacheModel", name := "add", desc := "(I)I" } : Jvm.MethodName) prog_13_method_32_code (2 : Nat) (Option.some Jvm.ClassFile.FieldType.int)) ∈ tk_tb := tk_in (List.mem_append_right _ (List.mem_of_getElem? (i := 906) (rfl))) rfl
set_option maxRecDepth 20000 in
theorem t_907 : (Jvm.Cond.methodLink "SketchCacheLaw" (55 : Nat) ({ cls := "SketchCacheModel", name := "estimate", desc := "(I)I" } : Jvm.MethodName)) ∈ tk_tb := tk_in (List.mem_append_right _ (List.mem_of_getElem? (i := 907) (by decide +kernel))) rfl
set_option maxRecDepth 20000 in
theorem t_908 : (Jvm.Cond.instanceMethod ({ cls := "SketchCacheModel", name := "estimate", desc := "(I)I" } : Jvm.MethodName)) ∈ tk_tb := tk_in (List.mem_append_right _ (List.mem_of_getElem? (i := 908) (by decide +kernel))) rfl
set_option maxRecDepth 20000 in
theorem t_909 : (Jvm.Cond.selects "SketchCacheModel" ({ cls := "SketchCacheModel", name := "estimate", desc := "(I)I" } : Jvm.MethodName) ({ cls := "SketchCacheModel", name := "estimate", desc := "(I)I" } : Jvm.MethodName)) ∈ tk_tb := tk_in (List.mem_append_right _ (List.mem_of_getElem? (i := 909) (by decide +kernel))) rfl
set_option maxRecDepth 20000 in
theorem t_910 : (Jvm.Cond.code ({ cls := "SketchCacheModel", name := "estimate", desc := "(I)I" } : Jvm.MethodName) prog_13_method_33_code (2 : Nat) (Option.some Jvm.ClassFile.FieldType.int)) ∈ tk_tb := tk_in (List.mem_append_right _ (List.mem_of_getElem? (i := 910) (rfl))) rfl
set_option maxRecDepth 20000 in
theorem t_911 : (Jvm.Cond.methodLink "SketchCacheLaw" (59 : Nat) ({ cls := "SketchCacheModel", name := "counter", desc := "(II)I" } : Jvm.MethodName)) ∈ tk_tb := tk_in (List.mem_append_right _ (List.mem_of_getElem? (i := 911) (by decide +kernel))) rfl
set_option maxRecDepth 20000 in
theorem t_912 : (Jvm.Cond.instanceMethod ({ cls := "SketchCacheModel", name := "counter", desc := "(II)I" } : Jvm.MethodName)) ∈ tk_tb := tk_in (List.mem_append_right _ (List.mem_of_getElem? (i := 912) (by decide +kernel))) rfl
set_option maxRecDepth 20000 in
theorem t_913 : (Jvm.Cond.selects "SketchCacheModel" ({ cls := "SketchCacheModel", name := "counter", desc := "(II)I" } : Jvm.MethodName) ({ cls := "SketchCacheModel", name := "counter", desc := "(II)I" } : Jvm.MethodName)) ∈ tk_tb := tk_in (List.mem_append_right _ (List.mem_of_getElem? (i := 913) (by decide +kernel))) rfl
set_option maxRecDepth 20000 in
theorem t_914 : (Jvm.Cond.code ({ cls := "SketchCacheModel", name := "counter", desc := "(II)I" } : Jvm.MethodName) prog_13_method_34_code (3 : Nat) (Option.some Jvm.ClassFile.FieldType.int)) ∈ tk_tb := tk_in (List.mem_append_right _ (List.mem_of_getElem? (i := 914) (rfl))) rfl
set_option maxRecDepth 20000 in
theorem t_915 : (Jvm.Cond.methodLink "SketchCacheLaw" (63 : Nat) ({ cls := "SketchCacheModel", name := "bit", desc := "(I)I" } : Jvm.MethodName)) ∈ tk_tb := tk_in (List.mem_append_right _ (List.mem_of_getElem? (i := 915) (by decide +kernel))) rfl
set_option maxRecDepth 20000 in
theorem t_916 : (Jvm.Cond.instanceMethod ({ cls := "SketchCacheModel", name := "bit", desc := "(I)I" } : Jvm.MethodName)) ∈ tk_tb := tk_in (List.mem_append_right _ (List.mem_of_getElem? (i := 916) (by decide +kernel))) rfl
set_option maxRecDepth 20000 in
theorem t_917 : (Jvm.Cond.selects "SketchCacheModel" ({ cls := "SketchCacheModel", name := "bit", desc := "(I)I" } : Jvm.MethodName) ({ cls := "SketchCacheModel", name := "bit", desc := "(I)I" } : Jvm.MethodName)) ∈ tk_tb := tk_in (List.mem_append_right _ (List.mem_of_getElem? (i := 917) (by decide +kernel))) rfl
set_option maxRecDepth 20000 in
theorem t_918 : (Jvm.Cond.code ({ cls := "SketchCacheModel", name := "bit", desc := "(I)I" } : Jvm.MethodName) prog_13_method_35_code (2 : Nat) (Option.some Jvm.ClassFile.FieldType.int)) ∈ tk_tb := tk_in (List.mem_append_right _ (List.mem_of_getElem? (i := 918) (rfl))) rfl
set_option maxRecDepth 20000 in
theorem t_919 : (Jvm.Cond.methodLink "SketchCacheLaw" (67 : Nat) ({ cls := "SketchCacheModel", name := "remove", desc := "(I)I" } : Jvm.MethodName)) ∈ tk_tb := tk_in (List.mem_append_right _ (List.mem_of_getElem? (i := 919) (by decide +kernel))) rfl
set_option maxRecDepth 20000 in
theorem t_920 : (Jvm.Cond.instanceMethod ({ cls := "SketchCacheModel", name := "remove", desc := "(I)I" } : Jvm.MethodName)) ∈ tk_tb := tk_in (List.mem_append_right _ (List.mem_of_getElem? (i := 920) (by decide +kernel))) rfl
set_option maxRecDepth 20000 in
theorem t_921 : (Jvm.Cond.selects "SketchCacheModel" ({ cls := "SketchCacheModel", name := "remove", desc := "(I)I" } : Jvm.MethodName) ({ cls := "SketchCacheModel", name := "remove", desc := "(I)I" } : Jvm.MethodName)) ∈ tk_tb := tk_in (List.mem_append_right _ (List.mem_of_getElem? (i := 921) (by decide +kernel))) rfl
set_option maxRecDepth 20000 in
theorem t_922 : (Jvm.Cond.code ({ cls := "SketchCacheModel", name := "remove", desc := "(I)I" } : Jvm.MethodName) prog_13_method_36_code (4 : Nat) (Option.some Jvm.ClassFile.FieldType.int)) ∈ tk_tb := tk_in (List.mem_append_right _ (List.mem_of_getElem? (i := 922) (rfl))) rfl
set_option maxRecDepth 20000 in
theorem t_923 : (Jvm.Cond.methodLink "SketchCacheLaw" (71 : Nat) ({ cls := "SketchCacheModel", name := "where", desc := "(I)I" } : Jvm.MethodName)) ∈ tk_tb := tk_in (List.mem_append_right _ (List.mem_of_getElem? (i := 923) (by decide +kernel))) rfl
set_option maxRecDepth 20000 in
theorem t_924 : (Jvm.Cond.instanceMethod ({ cls := "SketchCacheModel", name := "where", desc := "(I)I" } : Jvm.MethodName)) ∈ tk_tb := tk_in (List.mem_append_right _ (List.mem_of_getElem? (i := 924) (by decide +kernel))) rfl
set_option maxRecDepth 20000 in
theorem t_925 : (Jvm.Cond.selects "SketchCacheModel" ({ cls := "SketchCacheModel", name := "where", desc := "(I)I" } : Jvm.MethodName) ({ cls := "SketchCacheModel", name := "where", desc := "(I)I" } : Jvm.MethodName)) ∈ tk_tb := tk_in (List.mem_append_right _ (List.mem_of_getElem? (i := 925) (by decide +kernel))) rfl
set_option maxRecDepth 20000 in
theorem t_926 : (Jvm.Cond.code ({ cls := "SketchCacheModel", name := "where", desc := "(I)I" } : Jvm.MethodName) prog_13_method_37_code (2 : Nat) (Option.some Jvm.ClassFile.FieldType.int)) ∈ tk_tb := tk_in (List.mem_append_right _ (List.mem_of_getElem? (i := 926) (rfl))) rfl
set_option maxRecDepth 20000 in
theorem t_927 : (Jvm.Cond.methodLink "SketchCacheLaw" (75 : Nat) ({ cls := "SketchCacheModel", name := "key", desc := "(II)I" } : Jvm.MethodName)) ∈ tk_tb := tk_in (List.mem_append_right _ (List.mem_of_getElem? (i := 927) (by decide +kernel))) rfl
set_option maxRecDepth 20000 in
theorem t_928 : (Jvm.Cond.instanceMethod ({ cls := "SketchCacheModel", name := "key", desc := "(II)I" } : Jvm.MethodName)) ∈ tk_tb := tk_in (List.mem_append_right _ (List.mem_of_getElem? (i := 928) (by decide +kernel))) rfl
set_option maxRecDepth 20000 in
theorem t_929 : (Jvm.Cond.selects "SketchCacheModel" ({ cls := "SketchCacheModel", name := "key", desc := "(II)I" } : Jvm.MethodName) ({ cls := "SketchCacheModel", name := "key", desc := "(II)I" } : Jvm.MethodName)) ∈ tk_tb := tk_in (List.mem_append_right _ (List.mem_of_getElem? (i := 929) (by decide +kernel))) rfl
set_option maxRecDepth 20000 in
theorem t_930 : (Jvm.Cond.code ({ cls := "SketchCacheModel", name := "key", desc := "(II)I" } : Jvm.MethodName) prog_13_method_38_code (3 : Nat) (Option.some Jvm.ClassFile.FieldType.int)) ∈ tk_tb := tk_in (List.mem_append_right _ (List.mem_of_getElem? (i := 930) (rfl))) rfl
set_option maxRecDepth 20000 in
theorem t_931 : (Jvm.Cond.methodLink "SketchCacheLaw" (79 : Nat) ({ cls := "SketchCacheModel", name := "about", desc := "(I)I" } : Jvm.MethodName)) ∈ tk_tb := tk_in (List.mem_append_right _ (List.mem_of_getElem? (i := 931) (by decide +kernel))) rfl
set_option maxRecDepth 20000 in
theorem t_932 : (Jvm.Cond.instanceMethod ({ cls := "SketchCacheModel", name := "about", desc := "(I)I" } : Jvm.MethodName)) ∈ tk_tb := tk_in (List.mem_append_right _ (List.mem_of_getElem? (i := 932) (by decide +kernel))) rfl
set_option maxRecDepth 20000 in
theorem t_933 : (Jvm.Cond.selects "SketchCacheModel" ({ cls := "SketchCacheModel", name := "about", desc := "(I)I" } : Jvm.MethodName) ({ cls := "SketchCacheModel", name := "about", desc := "(I)I" } : Jvm.MethodName)) ∈ tk_tb := tk_in (List.mem_append_right _ (List.mem_of_getElem? (i := 933) (by decide +kernel))) rfl
set_option maxRecDepth 20000 in
theorem t_934 : (Jvm.Cond.code ({ cls := "SketchCacheModel", name := "about", desc := "(I)I" } : Jvm.MethodName) prog_13_method_39_code (2 : Nat) (Option.some Jvm.ClassFile.FieldType.int)) ∈ tk_tb := tk_in (List.mem_append_right _ (List.mem_of_getElem? (i := 934) (rfl))) rfl
set_option maxRecDepth 20000 in
theorem t_935 : (Jvm.Cond.methodLink "SketchCacheLaw" (83 : Nat) ({ cls := "SketchCacheModel", name := "trace", desc := "(I)I" } : Jvm.MethodName)) ∈ tk_tb := tk_in (List.mem_append_right _ (List.mem_of_getElem? (i := 935) (by decide +kernel))) rfl
set_option maxRecDepth 20000 in
theorem t_936 : (Jvm.Cond.instanceMethod ({ cls := "SketchCacheModel", name := "trace", desc := "(I)I" } : Jvm.MethodName)) ∈ tk_tb := tk_in (List.mem_append_right _ (List.mem_of_getElem? (i := 936) (by decide +kernel))) rfl
set_option maxRecDepth 20000 in
theorem t_937 : (Jvm.Cond.selects "SketchCacheModel" ({ cls := "SketchCacheModel", name := "trace", desc := "(I)I" } : Jvm.MethodName) ({ cls := "SketchCacheModel", name := "trace", desc := "(I)I" } : Jvm.MethodName)) ∈ tk_tb := tk_in (List.mem_append_right _ (List.mem_of_getElem? (i := 937) (by decide +kernel))) rfl
set_option maxRecDepth 20000 in
theorem t_938 : (Jvm.Cond.code ({ cls := "SketchCacheModel", name := "trace", desc := "(I)I" } : Jvm.MethodName) prog_13_method_40_code (2 : Nat) (Option.some Jvm.ClassFile.FieldType.int)) ∈ tk_tb := tk_in (List.mem_append_right _ (List.mem_of_getElem? (i := 938) (rfl))) rfl
set_option maxRecDepth 20000 in
theorem t_939 : (Jvm.Cond.methodLink "SketchCacheLaw" (88 : Nat) ({ cls := "SketchCacheModel", name := "replay", desc := "(IIII)I" } : Jvm.MethodName)) ∈ tk_tb := tk_in (List.mem_append_right _ (List.mem_of_getElem? (i := 939) (by decide +kernel))) rfl
set_option maxRecDepth 20000 in
theorem t_940 : (Jvm.Cond.instanceMethod ({ cls := "SketchCacheModel", name := "replay", desc := "(IIII)I" } : Jvm.MethodName)) ∈ tk_tb := tk_in (List.mem_append_right _ (List.mem_of_getElem? (i := 940) (by decide +kernel))) rfl
set_option maxRecDepth 20000 in
theorem t_941 : (Jvm.Cond.selects "SketchCacheModel" ({ cls := "SketchCacheModel", name := "replay", desc := "(IIII)I" } : Jvm.MethodName) ({ cls := "SketchCacheModel", name := "replay", desc := "(IIII)I" } : Jvm.MethodName)) ∈ tk_tb := tk_in (List.mem_append_right _ (List.mem_of_getElem? (i := 941) (by decide +kernel))) rfl
set_option maxRecDepth 20000 in
theorem t_942 : (Jvm.Cond.code ({ cls := "SketchCacheModel", name := "replay", desc := "(IIII)I" } : Jvm.MethodName) prog_13_method_52_code (8 : Nat) (Option.some Jvm.ClassFile.FieldType.int)) ∈ tk_tb := tk_in (List.mem_append_right _ (List.mem_of_getElem? (i := 942) (rfl))) rfl
set_option maxRecDepth 20000 in
theorem t_943 : (Jvm.Cond.methodLink "SketchCacheModel" (170 : Nat) ({ cls := "SketchCacheModel", name := "balanced", desc := "(III)I" } : Jvm.MethodName)) ∈ tk_tb := tk_in (List.mem_append_right _ (List.mem_of_getElem? (i := 943) (by decide +kernel))) rfl
set_option maxRecDepth 20000 in
theorem q_944 : (Jvm.Cond.privateMethod ({ cls := "SketchCacheModel", name := "balanced", desc := "(III)I" } : Jvm.MethodName)) ∈ lw_tbl := List.mem_append_right _ (List.mem_of_getElem? (i := 944) (by decide +kernel))
set_option maxRecDepth 20000 in
theorem t_945 : (Jvm.Cond.instanceMethod ({ cls := "SketchCacheModel", name := "balanced", desc := "(III)I" } : Jvm.MethodName)) ∈ tk_tb := tk_in (List.mem_append_right _ (List.mem_of_getElem? (i := 945) (by decide +kernel))) rfl
set_option maxRecDepth 20000 in
theorem t_946 : (Jvm.Cond.code ({ cls := "SketchCacheModel", name := "balanced", desc := "(III)I" } : Jvm.MethodName) prog_13_method_51_code (13 : Nat) (Option.some Jvm.ClassFile.FieldType.int)) ∈ tk_tb := tk_in (List.mem_append_right _ (List.mem_of_getElem? (i := 946) (rfl))) rfl
set_option maxRecDepth 20000 in
theorem t_947 : (Jvm.Cond.methodLink "SketchCacheModel" (164 : Nat) ({ cls := "SketchCacheModel", name := "indexIn", desc := "(II)I" } : Jvm.MethodName)) ∈ tk_tb := tk_in (List.mem_append_right _ (List.mem_of_getElem? (i := 947) (by decide +kernel))) rfl
set_option maxRecDepth 20000 in
theorem q_948 : (Jvm.Cond.privateMethod ({ cls := "SketchCacheModel", name := "indexIn", desc := "(II)I" } : Jvm.MethodName)) ∈ lw_tbl := List.mem_append_right _ (List.mem_of_getElem? (i := 948) (by decide +kernel))
set_option maxRecDepth 20000 in
theorem t_949 : (Jvm.Cond.instanceMethod ({ cls := "SketchCacheModel", name := "indexIn", desc := "(II)I" } : Jvm.MethodName)) ∈ tk_tb := tk_in (List.mem_append_right _ (List.mem_of_getElem? (i := 949) (by decide +kernel))) rfl
set_option maxRecDepth 20000 in
theorem t_950 : (Jvm.Cond.code ({ cls := "SketchCacheModel", name := "indexIn", desc := "(II)I" } : Jvm.MethodName) prog_13_method_46_code (4 : Nat) (Option.some Jvm.ClassFile.FieldType.int)) ∈ tk_tb := tk_in (List.mem_append_right _ (List.mem_of_getElem? (i := 950) (rfl))) rfl
set_option maxRecDepth 20000 in
theorem t_951 : (Jvm.Cond.methodLink "SketchCacheModel" (154 : Nat) ({ cls := "SketchCacheModel", name := "leave", desc := "(II)I" } : Jvm.MethodName)) ∈ tk_tb := tk_in (List.mem_append_right _ (List.mem_of_getElem? (i := 951) (by decide +kernel))) rfl
set_option maxRecDepth 20000 in
theorem q_952 : (Jvm.Cond.privateMethod ({ cls := "SketchCacheModel", name := "leave", desc := "(II)I" } : Jvm.MethodName)) ∈ lw_tbl := List.mem_append_right _ (List.mem_of_getElem? (i := 952) (by decide +kernel))
set_option maxRecDepth 20000 in
theorem t_953 : (Jvm.Cond.instanceMethod ({ cls := "SketchCacheModel", name := "leave", desc := "(II)I" } : Jvm.MethodName)) ∈ tk_tb := tk_in (List.mem_append_right _ (List.mem_of_getElem? (i := 953) (by decide +kernel))) rfl
set_option maxRecDepth 20000 in
theorem t_954 : (Jvm.Cond.code ({ cls := "SketchCacheModel", name := "leave", desc := "(II)I" } : Jvm.MethodName) prog_13_method_48_code (5 : Nat) (Option.some Jvm.ClassFile.FieldType.int)) ∈ tk_tb := tk_in (List.mem_append_right _ (List.mem_of_getElem? (i := 954) (rfl))) rfl
set_option maxRecDepth 20000 in
theorem t_955 : (Jvm.Cond.methodLink "SketchCacheModel" (157 : Nat) ({ cls := "SketchCacheModel", name := "join", desc := "(II)V" } : Jvm.MethodName)) ∈ tk_tb := tk_in (List.mem_append_right _ (List.mem_of_getElem? (i := 955) (by decide +kernel))) rfl
set_option maxRecDepth 20000 in
theorem q_956 : (Jvm.Cond.privateMethod ({ cls := "SketchCacheModel", name := "join", desc := "(II)V" } : Jvm.MethodName)) ∈ lw_tbl := List.mem_append_right _ (List.mem_of_getElem? (i := 956) (by decide +kernel))
set_option maxRecDepth 20000 in
theorem t_957 : (Jvm.Cond.instanceMethod ({ cls := "SketchCacheModel", name := "join", desc := "(II)V" } : Jvm.MethodName)) ∈ tk_tb := tk_in (List.mem_append_right _ (List.mem_of_getElem? (i := 957) (by decide +kernel))) rfl
set_option maxRecDepth 20000 in
theorem t_958 : (Jvm.Cond.code ({ cls := "SketchCacheModel", name := "join", desc := "(II)V" } : Jvm.MethodName) prog_13_method_47_code (3 : Nat) (Option.none : Option Jvm.ClassFile.FieldType)) ∈ tk_tb := tk_in (List.mem_append_right _ (List.mem_of_getElem? (i := 958) (rfl))) rfl
set_option maxRecDepth 20000 in
theorem t_959 : (Jvm.Cond.methodLink "SketchCacheModel" (160 : Nat) ({ cls := "SketchCacheModel", name := "makeRoom", desc := "(Z)V" } : Jvm.MethodName)) ∈ tk_tb := tk_in (List.mem_append_right _ (List.mem_of_getElem? (i := 959) (by decide +kernel))) rfl
set_option maxRecDepth 20000 in
theorem q_960 : (Jvm.Cond.privateMethod ({ cls := "SketchCacheModel", name := "makeRoom", desc := "(Z)V" } : Jvm.MethodName)) ∈ lw_tbl := List.mem_append_right _ (List.mem_of_getElem? (i := 960) (by decide +kernel))
set_option maxRecDepth 20000 in
theorem t_961 : (Jvm.Cond.instanceMethod ({ cls := "SketchCacheModel", name := "makeRoom", desc := "(Z)V" } : Jvm.MethodName)) ∈ tk_tb := tk_in (List.mem_append_right _ (List.mem_of_getElem? (i := 961) (by decide +kernel))) rfl
set_option maxRecDepth 20000 in
theorem t_962 : (Jvm.Cond.code ({ cls := "SketchCacheModel", name := "makeRoom", desc := "(Z)V" } : Jvm.MethodName) prog_13_method_49_code (3 : Nat) (Option.none : Option Jvm.ClassFile.FieldType)) ∈ tk_tb := tk_in (List.mem_append_right _ (List.mem_of_getElem? (i := 962) (rfl))) rfl
set_option maxRecDepth 20000 in
theorem t_963 : (Jvm.Cond.methodLink "SketchCacheModel" (167 : Nat) ({ cls := "SketchCacheModel", name := "otherKey", desc := "(II)V" } : Jvm.MethodName)) ∈ tk_tb := tk_in (List.mem_append_right _ (List.mem_of_getElem? (i := 963) (by decide +kernel))) rfl
set_option maxRecDepth 20000 in
theorem q_964 : (Jvm.Cond.privateMethod ({ cls := "SketchCacheModel", name := "otherKey", desc := "(II)V" } : Jvm.MethodName)) ∈ lw_tbl := List.mem_append_right _ (List.mem_of_getElem? (i := 964) (by decide +kernel))
set_option maxRecDepth 20000 in
theorem t_965 : (Jvm.Cond.instanceMethod ({ cls := "SketchCacheModel", name := "otherKey", desc := "(II)V" } : Jvm.MethodName)) ∈ tk_tb := tk_in (List.mem_append_right _ (List.mem_of_getElem? (i := 965) (by decide +kernel))) rfl
set_option maxRecDepth 20000 in
theorem t_966 : (Jvm.Cond.code ({ cls := "SketchCacheModel", name := "otherKey", desc := "(II)V" } : Jvm.MethodName) prog_13_method_50_code (4 : Nat) (Option.none : Option Jvm.ClassFile.FieldType)) ∈ tk_tb := tk_in (List.mem_append_right _ (List.mem_of_getElem? (i := 966) (rfl))) rfl
set_option maxRecDepth 20000 in
theorem t_967 : (Jvm.Cond.methodLink "SketchCacheModel" (173 : Nat) ({ cls := "SketchCacheModel", name := "played", desc := "(IIII)I" } : Jvm.MethodName)) ∈ tk_tb := tk_in (List.mem_append_right _ (List.mem_of_getElem? (i := 967) (by decide +kernel))) rfl
set_option maxRecDepth 20000 in
theorem q_968 : (Jvm.Cond.privateMethod ({ cls := "SketchCacheModel", name := "played", desc := "(IIII)I" } : Jvm.MethodName)) ∈ lw_tbl := List.mem_append_right _ (List.mem_of_getElem? (i := 968) (by decide +kernel))
set_option maxRecDepth 20000 in
theorem t_969 : (Jvm.Cond.instanceMethod ({ cls := "SketchCacheModel", name := "played", desc := "(IIII)I" } : Jvm.MethodName)) ∈ tk_tb := tk_in (List.mem_append_right _ (List.mem_of_getElem? (i := 969) (by decide +kernel))) rfl
set_option maxRecDepth 20000 in
theorem t_970 : (Jvm.Cond.code ({ cls := "SketchCacheModel", name := "played", desc := "(IIII)I" } : Jvm.MethodName) prog_13_method_45_code (9 : Nat) (Option.some Jvm.ClassFile.FieldType.int)) ∈ tk_tb := tk_in (List.mem_append_right _ (List.mem_of_getElem? (i := 970) (rfl))) rfl
set_option maxRecDepth 20000 in
theorem t_971 : (Jvm.Cond.methodLink "SketchCacheModel" (144 : Nat) ({ cls := "SketchCacheModel", name := "seatOf", desc := "(I)I" } : Jvm.MethodName)) ∈ tk_tb := tk_in (List.mem_append_right _ (List.mem_of_getElem? (i := 971) (by decide +kernel))) rfl
set_option maxRecDepth 20000 in
theorem q_972 : (Jvm.Cond.privateMethod ({ cls := "SketchCacheModel", name := "seatOf", desc := "(I)I" } : Jvm.MethodName)) ∈ lw_tbl := List.mem_append_right _ (List.mem_of_getElem? (i := 972) (by decide +kernel))
set_option maxRecDepth 20000 in
theorem t_973 : (Jvm.Cond.instanceMethod ({ cls := "SketchCacheModel", name := "seatOf", desc := "(I)I" } : Jvm.MethodName)) ∈ tk_tb := tk_in (List.mem_append_right _ (List.mem_of_getElem? (i := 973) (by decide +kernel))) rfl
set_option maxRecDepth 20000 in
theorem t_974 : (Jvm.Cond.code ({ cls := "SketchCacheModel", name := "seatOf", desc := "(I)I" } : Jvm.MethodName) prog_13_method_41_code (3 : Nat) (Option.some Jvm.ClassFile.FieldType.int)) ∈ tk_tb := tk_in (List.mem_append_right _ (List.mem_of_getElem? (i := 974) (rfl))) rfl
set_option maxRecDepth 20000 in
theorem t_975 : (Jvm.Cond.methodLink "SketchCacheModel" (147 : Nat) ({ cls := "SketchCacheModel", name := "seatThatGoes", desc := "(IIII)I" } : Jvm.MethodName)) ∈ tk_tb := tk_in (List.mem_append_right _ (List.mem_of_getElem? (i := 975) (by decide +kernel))) rfl
set_option maxRecDepth 20000 in
theorem q_976 : (Jvm.Cond.privateMethod ({ cls := "SketchCacheModel", name := "seatThatGoes", desc := "(IIII)I" } : Jvm.MethodName)) ∈ lw_tbl := List.mem_append_right _ (List.mem_of_getElem? (i := 976) (by decide +kernel))
set_option maxRecDepth 20000 in
theorem t_977 : (Jvm.Cond.instanceMethod ({ cls := "SketchCacheModel", name := "seatThatGoes", desc := "(IIII)I" } : Jvm.MethodName)) ∈ tk_tb := tk_in (List.mem_append_right _ (List.mem_of_getElem? (i := 977) (by decide +kernel))) rfl
set_option maxRecDepth 20000 in
theorem t_978 : (Jvm.Cond.code ({ cls := "SketchCacheModel", name := "seatThatGoes", desc := "(IIII)I" } : Jvm.MethodName) prog_13_method_44_code (7 : Nat) (Option.some Jvm.ClassFile.FieldType.int)) ∈ tk_tb := tk_in (List.mem_append_right _ (List.mem_of_getElem? (i := 978) (rfl))) rfl
set_option maxRecDepth 20000 in
theorem t_979 : (Jvm.Cond.methodLink "SketchCacheModel" (140 : Nat) ({ cls := "SketchCacheModel", name := "isSooner", desc := "(IIIII)Z" } : Jvm.MethodName)) ∈ tk_tb := tk_in (List.mem_append_right _ (List.mem_of_getElem? (i := 979) (by decide +kernel))) rfl
set_option maxRecDepth 20000 in
theorem q_980 : (Jvm.Cond.privateMethod ({ cls := "SketchCacheModel", name := "isSooner", desc := "(IIIII)Z" } : Jvm.MethodName)) ∈ lw_tbl := List.mem_append_right _ (List.mem_of_getElem? (i := 980) (by decide +kernel))
set_option maxRecDepth 20000 in
theorem t_981 : (Jvm.Cond.instanceMethod ({ cls := "SketchCacheModel", name := "isSooner", desc := "(IIIII)Z" } : Jvm.MethodName)) ∈ tk_tb := tk_in (List.mem_append_right _ (List.mem_of_getElem? (i := 981) (by decide +kernel))) rfl
set_option maxRecDepth 20000 in
theorem t_982 : (Jvm.Cond.code ({ cls := "SketchCacheModel", name := "isSooner", desc := "(IIIII)Z" } : Jvm.MethodName) prog_13_method_43_code (8 : Nat) (Option.some Jvm.ClassFile.FieldType.boolean)) ∈ tk_tb := tk_in (List.mem_append_right _ (List.mem_of_getElem? (i := 982) (rfl))) rfl
set_option maxRecDepth 20000 in
theorem t_983 : (Jvm.Cond.methodLink "SketchCacheModel" (134 : Nat) ({ cls := "SketchCacheModel", name := "again", desc := "(III)I" } : Jvm.MethodName)) ∈ tk_tb := tk_in (List.mem_append_right _ (List.mem_of_getElem? (i := 983) (by decide +kernel))) rfl
set_option maxRecDepth 20000 in
theorem q_984 : (Jvm.Cond.privateMethod ({ cls := "SketchCacheModel", name := "again", desc := "(III)I" } : Jvm.MethodName)) ∈ lw_tbl := List.mem_append_right _ (List.mem_of_getElem? (i := 984) (by decide +kernel))
set_option maxRecDepth 20000 in
theorem t_985 : (Jvm.Cond.instanceMethod ({ cls := "SketchCacheModel", name := "again", desc := "(III)I" } : Jvm.MethodName)) ∈ tk_tb := tk_in (List.mem_append_right _ (List.mem_of_getElem? (i := 985) (by decide +kernel))) rfl
set_option maxRecDepth 20000 in
theorem t_986 : (Jvm.Cond.code ({ cls := "SketchCacheModel", name := "again", desc := "(III)I" } : Jvm.MethodName) prog_13_method_42_code (5 : Nat) (Option.some Jvm.ClassFile.FieldType.int)) ∈ tk_tb := tk_in (List.mem_append_right _ (List.mem_of_getElem? (i := 986) (rfl))) rfl
set_option maxRecDepth 20000 in
theorem t_987 : (Jvm.Cond.methodLink "SketchCacheLaw" (92 : Nat) ({ cls := "SketchCacheModel", name := "kept", desc := "(I)I" } : Jvm.MethodName)) ∈ tk_tb := tk_in (List.mem_append_right _ (List.mem_of_getElem? (i := 987) (by decide +kernel))) rfl
set_option maxRecDepth 20000 in
theorem t_988 : (Jvm.Cond.instanceMethod ({ cls := "SketchCacheModel", name := "kept", desc := "(I)I" } : Jvm.MethodName)) ∈ tk_tb := tk_in (List.mem_append_right _ (List.mem_of_getElem? (i := 988) (by decide +kernel))) rfl
set_option maxRecDepth 20000 in
theorem t_989 : (Jvm.Cond.selects "SketchCacheModel" ({ cls := "SketchCacheModel", name := "kept", desc := "(I)I" } : Jvm.MethodName) ({ cls := "SketchCacheModel", name := "kept", desc := "(I)I" } : Jvm.MethodName)) ∈ tk_tb := tk_in (List.mem_append_right _ (List.mem_of_getElem? (i := 989) (by decide +kernel))) rfl
set_option maxRecDepth 20000 in
theorem t_990 : (Jvm.Cond.code ({ cls := "SketchCacheModel", name := "kept", desc := "(I)I" } : Jvm.MethodName) prog_13_method_53_code (2 : Nat) (Option.some Jvm.ClassFile.FieldType.int)) ∈ tk_tb := tk_in (List.mem_append_right _ (List.mem_of_getElem? (i := 990) (rfl))) rfl
set_option maxRecDepth 20000 in
theorem t_991 : (Jvm.Cond.methodLink "SketchCacheLaw" (96 : Nat) ({ cls := "SketchCacheModel", name := "save", desc := "(I)I" } : Jvm.MethodName)) ∈ tk_tb := tk_in (List.mem_append_right _ (List.mem_of_getElem? (i := 991) (by decide +kernel))) rfl
set_option maxRecDepth 20000 in
theorem t_992 : (Jvm.Cond.instanceMethod ({ cls := "SketchCacheModel", name := "save", desc := "(I)I" } : Jvm.MethodName)) ∈ tk_tb := tk_in (List.mem_append_right _ (List.mem_of_getElem? (i := 992) (by decide +kernel))) rfl
set_option maxRecDepth 20000 in
theorem t_993 : (Jvm.Cond.selects "SketchCacheModel" ({ cls := "SketchCacheModel", name := "save", desc := "(I)I" } : Jvm.MethodName) ({ cls := "SketchCacheModel", name := "save", desc := "(I)I" } : Jvm.MethodName)) ∈ tk_tb := tk_in (List.mem_append_right _ (List.mem_of_getElem? (i := 993) (by decide +kernel))) rfl
set_option maxRecDepth 20000 in
theorem t_994 : (Jvm.Cond.code ({ cls := "SketchCacheModel", name := "save", desc := "(I)I" } : Jvm.MethodName) prog_13_method_54_code (3 : Nat) (Option.some Jvm.ClassFile.FieldType.int)) ∈ tk_tb := tk_in (List.mem_append_right _ (List.mem_of_getElem? (i := 994) (rfl))) rfl
set_option maxRecDepth 20000 in
theorem t_995 : (Jvm.Cond.methodLink "SketchCacheLaw" (100 : Nat) ({ cls := "SketchCacheModel", name := "load", desc := "(I)I" } : Jvm.MethodName)) ∈ tk_tb := tk_in (List.mem_append_right _ (List.mem_of_getElem? (i := 995) (by decide +kernel))) rfl
set_option maxRecDepth 20000 in
theorem t_996 : (Jvm.Cond.instanceMethod ({ cls := "SketchCacheModel", name := "load", desc := "(I)I" } : Jvm.MethodName)) ∈ tk_tb := tk_in (List.mem_append_right _ (List.mem_of_getElem? (i := 996) (by decide +kernel))) rfl
set_option maxRecDepth 20000 in
theorem t_997 : (Jvm.Cond.selects "SketchCacheModel" ({ cls := "SketchCacheModel", name := "load", desc := "(I)I" } : Jvm.MethodName) ({ cls := "SketchCacheModel", name := "load", desc := "(I)I" } : Jvm.MethodName)) ∈ tk_tb := tk_in (List.mem_append_right _ (List.mem_of_getElem? (i := 997) (by decide +kernel))) rfl
set_option maxRecDepth 20000 in
theorem t_998 : (Jvm.Cond.code ({ cls := "SketchCacheModel", name := "load", desc := "(I)I" } : Jvm.MethodName) prog_13_method_55_code (3 : Nat) (Option.some Jvm.ClassFile.FieldType.int)) ∈ tk_tb := tk_in (List.mem_append_right _ (List.mem_of_getElem? (i := 998) (rfl))) rfl
set_option maxRecDepth 20000 in
theorem t_999 : (Jvm.Cond.methodLink "SketchCacheLaw" (105 : Nat) ({ cls := "SketchCacheModel", name := "sound", desc := "()I" } : Jvm.MethodName)) ∈ tk_tb := tk_in (List.mem_append_right _ (List.mem_of_getElem? (i := 999) (by decide +kernel))) rfl
set_option maxRecDepth 20000 in
theorem t_1000 : (Jvm.Cond.instanceMethod ({ cls := "SketchCacheModel", name := "sound", desc := "()I" } : Jvm.MethodName)) ∈ tk_tb := tk_in (List.mem_append_right _ (List.mem_of_getElem? (i := 1000) (by decide +kernel))) rfl
set_option maxRecDepth 20000 in
theorem t_1001 : (Jvm.Cond.selects "SketchCacheModel" ({ cls := "SketchCacheModel", name := "sound", desc := "()I" } : Jvm.MethodName) ({ cls := "SketchCacheModel", name := "sound", desc := "()I" } : Jvm.MethodName)) ∈ tk_tb := tk_in (List.mem_append_right _ (List.mem_of_getElem? (i := 1001) (by decide +kernel))) rfl
set_option maxRecDepth 20000 in
theorem t_1002 : (Jvm.Cond.code ({ cls := "SketchCacheModel", name := "sound", desc := "()I" } : Jvm.MethodName) prog_13_method_56_code (6 : Nat) (Option.some Jvm.ClassFile.FieldType.int)) ∈ tk_tb := tk_in (List.mem_append_right _ (List.mem_of_getElem? (i := 1002) (rfl))) rfl
set_option maxRecDepth 20000 in
theorem q_1003 : (Jvm.Cond.castable "SketchCache$FourRows" "SketchCache$Policy") ∈ lw_tbl := List.mem_append_right _ (List.mem_of_getElem? (i := 1003) (by decide +kernel))
set_option maxRecDepth 20000 in
theorem q_1004 : (Jvm.Cond.castable "SketchCache$Seats" "SketchCache$Policy") ∈ lw_tbl := List.mem_append_right _ (List.mem_of_getElem? (i := 1004) (by decide +kernel))
theorem p_0 : Cond.selects "SketchCache$Sketch" ⟨"SketchCache$Sketch", "forgetIfChanged", "(II)V"⟩ ⟨"SketchCache$Sketch", "forgetIfChanged", "(II)V"⟩ ∈ tk_tb := tk_in (List.mem_append_left _ (List.mem_of_getElem? (i := 0) (by decide +kernel))) rfl
theorem p_1 : Cond.selects "SketchCache$Climb" ⟨"SketchCache$Climb", "beginAnew", "()V"⟩ ⟨"SketchCache$Climb", "beginAnew", "()V"⟩ ∈ tk_tb := tk_in (List.mem_append_left _ (List.mem_of_getElem? (i := 1) (by decide +kernel))) rfl
theorem p_2 : Cond.selects "SketchCache$Sketch" ⟨"SketchCache$Sketch", "isPastDoor", "(I)Z"⟩ ⟨"SketchCache$Sketch", "isPastDoor", "(I)Z"⟩ ∈ tk_tb := tk_in (List.mem_append_left _ (List.mem_of_getElem? (i := 2) (by decide +kernel))) rfl
theorem p_3 : Cond.selects "SketchCache$Sketch" ⟨"SketchCache$Sketch", "growCounters", "(I)V"⟩ ⟨"SketchCache$Sketch", "growCounters", "(I)V"⟩ ∈ tk_tb := tk_in (List.mem_append_left _ (List.mem_of_getElem? (i := 3) (by decide +kernel))) rfl
theorem p_4 : Cond.selects "SketchCache$Sketch" ⟨"SketchCache$Sketch", "smallestCounter", "(I)I"⟩ ⟨"SketchCache$Sketch", "smallestCounter", "(I)I"⟩ ∈ tk_tb := tk_in (List.mem_append_left _ (List.mem_of_getElem? (i := 4) (by decide +kernel))) rfl
theorem p_5 : Cond.selects "SketchCache$Sketch" ⟨"SketchCache$Sketch", "age", "()V"⟩ ⟨"SketchCache$Sketch", "age", "()V"⟩ ∈ tk_tb := tk_in (List.mem_append_left _ (List.mem_of_getElem? (i := 5) (by decide +kernel))) rfl
theorem p_6 : Cond.selects "SketchCache$Cache" ⟨"SketchCache$Cache", "settle", "()V"⟩ ⟨"SketchCache$Cache", "settle", "()V"⟩ ∈ tk_tb := tk_in (List.mem_append_left _ (List.mem_of_getElem? (i := 6) (by decide +kernel))) rfl
theorem p_7 : Cond.selects "SketchCache$Cache" ⟨"SketchCache$Cache", "judge", "(I)V"⟩ ⟨"SketchCache$Cache", "judge", "(I)V"⟩ ∈ tk_tb := tk_in (List.mem_append_left _ (List.mem_of_getElem? (i := 7) (by decide +kernel))) rfl
theorem p_8 : Cond.selects "SketchCache$Cache" ⟨"SketchCache$Cache", "victimsNeeded", "(I)I"⟩ ⟨"SketchCache$Cache", "victimsNeeded", "(I)I"⟩ ∈ tk_tb := tk_in (List.mem_append_left _ (List.mem_of_getElem? (i := 8) (by decide +kernel))) rfl
theorem p_9 : Cond.selects "SketchCache$Cache" ⟨"SketchCache$Cache", "unitsInMain", "()I"⟩ ⟨"SketchCache$Cache", "unitsInMain", "()I"⟩ ∈ tk_tb := tk_in (List.mem_append_left _ (List.mem_of_getElem? (i := 9) (by decide +kernel))) rfl
theorem p_10 : Cond.selects "SketchCache$Cache" ⟨"SketchCache$Cache", "keysInMain", "()I"⟩ ⟨"SketchCache$Cache", "keysInMain", "()I"⟩ ∈ tk_tb := tk_in (List.mem_append_left _ (List.mem_of_getElem? (i := 10) (by decide +kernel))) rfl
theorem p_11 : Cond.selects "SketchCache$Cache" ⟨"SketchCache$Cache", "victimAt", "(I)I"⟩ ⟨"SketchCache$Cache", "victimAt", "(I)I"⟩ ∈ tk_tb := tk_in (List.mem_append_left _ (List.mem_of_getElem? (i := 11) (by decide +kernel))) rfl
theorem p_12 : Cond.selects "SketchCache$Cache" ⟨"SketchCache$Cache", "victimsBeaten", "(II)I"⟩ ⟨"SketchCache$Cache", "victimsBeaten", "(II)I"⟩ ∈ tk_tb := tk_in (List.mem_append_left _ (List.mem_of_getElem? (i := 12) (by decide +kernel))) rfl
theorem p_13 : Cond.selects "SketchCache$Cache" ⟨"SketchCache$Cache", "spare", "(I)V"⟩ ⟨"SketchCache$Cache", "spare", "(I)V"⟩ ∈ tk_tb := tk_in (List.mem_append_left _ (List.mem_of_getElem? (i := 13) (by decide +kernel))) rfl
theorem p_14 : Cond.selects "SketchCache$Player" ⟨"SketchCache$Player", "lookAhead", "(LSketchCache$Trace;II)V"⟩ ⟨"SketchCache$Player", "lookAhead", "(LSketchCache$Trace;II)V"⟩ ∈ tk_tb := tk_in (List.mem_append_left _ (List.mem_of_getElem? (i := 14) (by decide +kernel))) rfl
theorem p_15 : Cond.selects "SketchCache$FourRows" ⟨"SketchCache$FourRows", "makeRoomForNew", "()V"⟩ ⟨"SketchCache$FourRows", "makeRoomForNew", "()V"⟩ ∈ tk_tb := tk_in (List.mem_append_left _ (List.mem_of_getElem? (i := 15) (by decide +kernel))) rfl
theorem p_16 : Cond.selects "SketchCache$FourRows" ⟨"SketchCache$FourRows", "makeRoom", "(Z)V"⟩ ⟨"SketchCache$FourRows", "makeRoom", "(Z)V"⟩ ∈ tk_tb := tk_in (List.mem_append_left _ (List.mem_of_getElem? (i := 16) (by decide +kernel))) rfl
theorem p_17 : Cond.selects "SketchCache$Seats" ⟨"SketchCache$Seats", "seatOf", "(I)I"⟩ ⟨"SketchCache$Seats", "seatOf", "(I)I"⟩ ∈ tk_tb := tk_in (List.mem_append_left _ (List.mem_of_getElem? (i := 17) (by decide +kernel))) rfl
theorem p_18 : Cond.selects "SketchCache$Seats" ⟨"SketchCache$Seats", "freeSeat", "()I"⟩ ⟨"SketchCache$Seats", "freeSeat", "()I"⟩ ∈ tk_tb := tk_in (List.mem_append_left _ (List.mem_of_getElem? (i := 18) (by decide +kernel))) rfl
theorem p_19 : Cond.selects "SketchCache$Seats" ⟨"SketchCache$Seats", "seatByHand", "()I"⟩ ⟨"SketchCache$Seats", "seatByHand", "()I"⟩ ∈ tk_tb := tk_in (List.mem_append_left _ (List.mem_of_getElem? (i := 19) (by decide +kernel))) rfl
theorem p_20 : Cond.selects "SketchCache$Seats" ⟨"SketchCache$Seats", "nextSeat", "(I)I"⟩ ⟨"SketchCache$Seats", "nextSeat", "(I)I"⟩ ∈ tk_tb := tk_in (List.mem_append_left _ (List.mem_of_getElem? (i := 20) (by decide +kernel))) rfl
theorem p_21 : Cond.selects "SketchCache$Seats" ⟨"SketchCache$Seats", "seatByRank", "()I"⟩ ⟨"SketchCache$Seats", "seatByRank", "()I"⟩ ∈ tk_tb := tk_in (List.mem_append_left _ (List.mem_of_getElem? (i := 21) (by decide +kernel))) rfl
theorem p_22 : Cond.selects "SketchCache$Seats" ⟨"SketchCache$Seats", "goesBefore", "(II)Z"⟩ ⟨"SketchCache$Seats", "goesBefore", "(II)Z"⟩ ∈ tk_tb := tk_in (List.mem_append_left _ (List.mem_of_getElem? (i := 22) (by decide +kernel))) rfl
theorem p_23 : Cond.selects "SketchCache$Player" ⟨"SketchCache$Player", "keepFrom", "(LSketchCache$Policy;)V"⟩ ⟨"SketchCache$Player", "keepFrom", "(LSketchCache$Policy;)V"⟩ ∈ tk_tb := tk_in (List.mem_append_left _ (List.mem_of_getElem? (i := 23) (by decide +kernel))) rfl
theorem p_24 : Cond.selects "SketchCacheModel" ⟨"SketchCacheModel", "setWindow", "(I)V"⟩ ⟨"SketchCacheModel", "setWindow", "(I)V"⟩ ∈ tk_tb := tk_in (List.mem_append_left _ (List.mem_of_getElem? (i := 24) (by decide +kernel))) rfl
theorem p_25 : Cond.selects "SketchCacheModel" ⟨"SketchCacheModel", "forgetTimes", "()V"⟩ ⟨"SketchCacheModel", "forgetTimes", "()V"⟩ ∈ tk_tb := tk_in (List.mem_append_left _ (List.mem_of_getElem? (i := 25) (by decide +kernel))) rfl
theorem p_26 : Cond.selects "SketchCacheModel" ⟨"SketchCacheModel", "partOf", "(I)I"⟩ ⟨"SketchCacheModel", "partOf", "(I)I"⟩ ∈ tk_tb := tk_in (List.mem_append_left _ (List.mem_of_getElem? (i := 26) (by decide +kernel))) rfl
theorem p_27 : Cond.selects "SketchCacheModel" ⟨"SketchCacheModel", "indexOf", "(II)I"⟩ ⟨"SketchCacheModel", "indexOf", "(II)I"⟩ ∈ tk_tb := tk_in (List.mem_append_left _ (List.mem_of_getElem? (i := 27) (by decide +kernel))) rfl
theorem p_28 : Cond.selects "SketchCacheModel" ⟨"SketchCacheModel", "length", "(I)I"⟩ ⟨"SketchCacheModel", "length", "(I)I"⟩ ∈ tk_tb := tk_in (List.mem_append_left _ (List.mem_of_getElem? (i := 28) (by decide +kernel))) rfl
theorem p_29 : Cond.selects "SketchCacheModel" ⟨"SketchCacheModel", "keyAt", "(II)I"⟩ ⟨"SketchCacheModel", "keyAt", "(II)I"⟩ ∈ tk_tb := tk_in (List.mem_append_left _ (List.mem_of_getElem? (i := 29) (by decide +kernel))) rfl
theorem p_30 : Cond.selects "SketchCacheModel" ⟨"SketchCacheModel", "accessed", "(I)I"⟩ ⟨"SketchCacheModel", "accessed", "(I)I"⟩ ∈ tk_tb := tk_in (List.mem_append_left _ (List.mem_of_getElem? (i := 30) (by decide +kernel))) rfl
theorem p_31 : Cond.selects "SketchCacheModel" ⟨"SketchCacheModel", "count", "(I)V"⟩ ⟨"SketchCacheModel", "count", "(I)V"⟩ ∈ tk_tb := tk_in (List.mem_append_left _ (List.mem_of_getElem? (i := 31) (by decide +kernel))) rfl
theorem p_32 : Cond.selects "SketchCacheModel" ⟨"SketchCacheModel", "isThrough", "(I)Z"⟩ ⟨"SketchCacheModel", "isThrough", "(I)Z"⟩ ∈ tk_tb := tk_in (List.mem_append_left _ (List.mem_of_getElem? (i := 32) (by decide +kernel))) rfl
theorem p_33 : Cond.selects "SketchCacheModel" ⟨"SketchCacheModel", "smallest", "(I)I"⟩ ⟨"SketchCacheModel", "smallest", "(I)I"⟩ ∈ tk_tb := tk_in (List.mem_append_left _ (List.mem_of_getElem? (i := 33) (by decide +kernel))) rfl
theorem p_34 : Cond.selects "SketchCacheModel" ⟨"SketchCacheModel", "cell", "(II)I"⟩ ⟨"SketchCacheModel", "cell", "(II)I"⟩ ∈ tk_tb := tk_in (List.mem_append_left _ (List.mem_of_getElem? (i := 34) (by decide +kernel))) rfl
theorem p_35 : Cond.selects "SketchCacheModel" ⟨"SketchCacheModel", "take", "(II)I"⟩ ⟨"SketchCacheModel", "take", "(II)I"⟩ ∈ tk_tb := tk_in (List.mem_append_left _ (List.mem_of_getElem? (i := 35) (by decide +kernel))) rfl
theorem p_36 : Cond.selects "SketchCacheModel" ⟨"SketchCacheModel", "append", "(II)V"⟩ ⟨"SketchCacheModel", "append", "(II)V"⟩ ∈ tk_tb := tk_in (List.mem_append_left _ (List.mem_of_getElem? (i := 36) (by decide +kernel))) rfl
theorem p_37 : Cond.selects "SketchCacheModel" ⟨"SketchCacheModel", "settle", "()V"⟩ ⟨"SketchCacheModel", "settle", "()V"⟩ ∈ tk_tb := tk_in (List.mem_append_left _ (List.mem_of_getElem? (i := 37) (by decide +kernel))) rfl
theorem p_38 : Cond.selects "SketchCacheModel" ⟨"SketchCacheModel", "units", "(I)I"⟩ ⟨"SketchCacheModel", "units", "(I)I"⟩ ∈ tk_tb := tk_in (List.mem_append_left _ (List.mem_of_getElem? (i := 38) (by decide +kernel))) rfl
theorem p_39 : Cond.selects "SketchCacheModel" ⟨"SketchCacheModel", "candidate", "(I)V"⟩ ⟨"SketchCacheModel", "candidate", "(I)V"⟩ ∈ tk_tb := tk_in (List.mem_append_left _ (List.mem_of_getElem? (i := 39) (by decide +kernel))) rfl
theorem p_40 : Cond.selects "SketchCacheModel" ⟨"SketchCacheModel", "inMain", "()I"⟩ ⟨"SketchCacheModel", "inMain", "()I"⟩ ∈ tk_tb := tk_in (List.mem_append_left _ (List.mem_of_getElem? (i := 40) (by decide +kernel))) rfl
theorem p_41 : Cond.selects "SketchCacheModel" ⟨"SketchCacheModel", "together", "(II)V"⟩ ⟨"SketchCacheModel", "together", "(II)V"⟩ ∈ tk_tb := tk_in (List.mem_append_left _ (List.mem_of_getElem? (i := 41) (by decide +kernel))) rfl
theorem p_42 : Cond.selects "SketchCacheModel" ⟨"SketchCacheModel", "estimated", "(I)I"⟩ ⟨"SketchCacheModel", "estimated", "(I)I"⟩ ∈ tk_tb := tk_in (List.mem_append_left _ (List.mem_of_getElem? (i := 42) (by decide +kernel))) rfl
theorem p_43 : Cond.selects "SketchCacheModel" ⟨"SketchCacheModel", "overflow", "()V"⟩ ⟨"SketchCacheModel", "overflow", "()V"⟩ ∈ tk_tb := tk_in (List.mem_append_left _ (List.mem_of_getElem? (i := 43) (by decide +kernel))) rfl
theorem p_44 : Cond.selects "SketchCacheModel" ⟨"SketchCacheModel", "climb", "()V"⟩ ⟨"SketchCacheModel", "climb", "()V"⟩ ∈ tk_tb := tk_in (List.mem_append_left _ (List.mem_of_getElem? (i := 44) (by decide +kernel))) rfl
theorem p_45 : Cond.selects "SketchCacheModel" ⟨"SketchCacheModel", "balanced", "(III)I"⟩ ⟨"SketchCacheModel", "balanced", "(III)I"⟩ ∈ tk_tb := tk_in (List.mem_append_left _ (List.mem_of_getElem? (i := 45) (by decide +kernel))) rfl
theorem p_46 : Cond.selects "SketchCacheModel" ⟨"SketchCacheModel", "indexIn", "(II)I"⟩ ⟨"SketchCacheModel", "indexIn", "(II)I"⟩ ∈ tk_tb := tk_in (List.mem_append_left _ (List.mem_of_getElem? (i := 46) (by decide +kernel))) rfl
theorem p_47 : Cond.selects "SketchCacheModel" ⟨"SketchCacheModel", "leave", "(II)I"⟩ ⟨"SketchCacheModel", "leave", "(II)I"⟩ ∈ tk_tb := tk_in (List.mem_append_left _ (List.mem_of_getElem? (i := 47) (by decide +kernel))) rfl
theorem p_48 : Cond.selects "SketchCacheModel" ⟨"SketchCacheModel", "join", "(II)V"⟩ ⟨"SketchCacheModel", "join", "(II)V"⟩ ∈ tk_tb := tk_in (List.mem_append_left _ (List.mem_of_getElem? (i := 48) (by decide +kernel))) rfl
theorem p_49 : Cond.selects "SketchCacheModel" ⟨"SketchCacheModel", "makeRoom", "(Z)V"⟩ ⟨"SketchCacheModel", "makeRoom", "(Z)V"⟩ ∈ tk_tb := tk_in (List.mem_append_left _ (List.mem_of_getElem? (i := 49) (by decide +kernel))) rfl
theorem p_50 : Cond.selects "SketchCacheModel" ⟨"SketchCacheModel", "otherKey", "(II)V"⟩ ⟨"SketchCacheModel", "otherKey", "(II)V"⟩ ∈ tk_tb := tk_in (List.mem_append_left _ (List.mem_of_getElem? (i := 50) (by decide +kernel))) rfl
theorem p_51 : Cond.selects "SketchCacheModel" ⟨"SketchCacheModel", "played", "(IIII)I"⟩ ⟨"SketchCacheModel", "played", "(IIII)I"⟩ ∈ tk_tb := tk_in (List.mem_append_left _ (List.mem_of_getElem? (i := 51) (by decide +kernel))) rfl
theorem p_52 : Cond.selects "SketchCacheModel" ⟨"SketchCacheModel", "seatOf", "(I)I"⟩ ⟨"SketchCacheModel", "seatOf", "(I)I"⟩ ∈ tk_tb := tk_in (List.mem_append_left _ (List.mem_of_getElem? (i := 52) (by decide +kernel))) rfl
theorem p_53 : Cond.selects "SketchCacheModel" ⟨"SketchCacheModel", "seatThatGoes", "(IIII)I"⟩ ⟨"SketchCacheModel", "seatThatGoes", "(IIII)I"⟩ ∈ tk_tb := tk_in (List.mem_append_left _ (List.mem_of_getElem? (i := 53) (by decide +kernel))) rfl
theorem p_54 : Cond.selects "SketchCacheModel" ⟨"SketchCacheModel", "isSooner", "(IIIII)Z"⟩ ⟨"SketchCacheModel", "isSooner", "(IIIII)Z"⟩ ∈ tk_tb := tk_in (List.mem_append_left _ (List.mem_of_getElem? (i := 54) (by decide +kernel))) rfl
theorem p_55 : Cond.selects "SketchCacheModel" ⟨"SketchCacheModel", "again", "(III)I"⟩ ⟨"SketchCacheModel", "again", "(III)I"⟩ ∈ tk_tb := tk_in (List.mem_append_left _ (List.mem_of_getElem? (i := 55) (by decide +kernel))) rfl
theorem in_all {ws : List Cond} (h : ws.all (fun w => decide (w ∈ lw_tbl) && goodWord w) = true) : ∀ w ∈ ws, w ∈ tk_tb := fun w hw => by
  have h1 := List.all_eq_true.mp h w hw
  simp only [Bool.and_eq_true, decide_eq_true_eq] at h1
  exact tk_in h1.1 h1.2
theorem inX0 : ∀ w ∈ u_ws RX0 TX0 6, w ∈ tk_tb := in_all (by decide +kernel)
theorem inX1 : ∀ w ∈ u_ws RX1 TX1 6, w ∈ tk_tb := in_all (by decide +kernel)
theorem inX2 : ∀ w ∈ u_ws RX2 TX2 3, w ∈ tk_tb := in_all (by decide +kernel)
theorem inX3 : ∀ w ∈ u_ws RX3 TX3 5, w ∈ tk_tb := in_all (by decide +kernel)
theorem inX5 : ∀ w ∈ u_ws RX5 TX5 5, w ∈ tk_tb := in_all (by decide +kernel)
theorem inX6 : ∀ w ∈ u_ws RX6 TX6 10, w ∈ tk_tb := in_all (by decide +kernel)
theorem inX7 : ∀ w ∈ u_ws RX7 TX7 11, w ∈ tk_tb := in_all (by decide +kernel)
theorem inX8 : ∀ w ∈ u_ws RX8 TX8 5, w ∈ tk_tb := in_all (by decide +kernel)
theorem inX9 : ∀ w ∈ u_ws RX9 TX9 3, w ∈ tk_tb := in_all (by decide +kernel)
theorem inX10 : ∀ w ∈ u_ws RX10 TX10 6, w ∈ tk_tb := in_all (by decide +kernel)
theorem inX11 : ∀ w ∈ u_ws RX11 TX11 17, w ∈ tk_tb := in_all (by decide +kernel)
